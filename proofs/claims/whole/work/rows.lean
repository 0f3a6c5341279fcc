section
-- ===== PART A: goes FIRST, ahead of the names: the tables' words, and 'selects' of the private methods out of them =====
/-- a private method of a class that the tables say can be made, by its rows of tables_1 -/
def lw_okq (q : MethodName × Nat) : Prop := (q.1.cls ≠ "java/lang/invoke/MethodHandle" ∧ q.1.cls ≠ "java/lang/invoke/VarHandle") ∧ Cond.instantiable q.1.cls q.2 ∈ tables_1 ∧ Cond.privateMethod q.1 ∈ tables_1 ∧ Cond.instanceMethod q.1 ∈ tables_1
theorem lw_p0 : lw_okq (⟨"RestedArms$History", "moveOldestBehind", "()V"⟩, 2) := ⟨⟨by decide +kernel, by decide +kernel⟩, List.mem_of_getElem? (i := 91) (by decide +kernel), List.mem_of_getElem? (i := 172) (by decide +kernel), List.mem_of_getElem? (i := 173) (by decide +kernel)⟩
theorem lw_p1 : lw_okq (⟨"RestedArms$History", "boardAt", "(I)LRestedArms$Board;"⟩, 2) := ⟨⟨by decide +kernel, by decide +kernel⟩, List.mem_of_getElem? (i := 91) (by decide +kernel), List.mem_of_getElem? (i := 176) (by decide +kernel), List.mem_of_getElem? (i := 177) (by decide +kernel)⟩
theorem lw_p2 : lw_okq (⟨"java/lang/Throwable", "fillInStackTrace", "(I)Ljava/lang/Throwable;"⟩, 6) := ⟨⟨by decide +kernel, by decide +kernel⟩, List.mem_of_getElem? (i := 288) (by decide +kernel), List.mem_of_getElem? (i := 286) (by decide +kernel), List.mem_of_getElem? (i := 287) (by decide +kernel)⟩
theorem lw_p3 : lw_okq (⟨"RestedArms", "hashOfArm", "(JI)J"⟩, 6) := ⟨⟨by decide +kernel, by decide +kernel⟩, List.mem_of_getElem? (i := 17) (by decide +kernel), List.mem_of_getElem? (i := 347) (by decide +kernel), List.mem_of_getElem? (i := 348) (by decide +kernel)⟩
theorem lw_p4 : lw_okq (⟨"RestedArms$Indices", "clearValues", "()V"⟩, 4) := ⟨⟨by decide +kernel, by decide +kernel⟩, List.mem_of_getElem? (i := 108) (by decide +kernel), List.mem_of_getElem? (i := 371) (by decide +kernel), List.mem_of_getElem? (i := 372) (by decide +kernel)⟩
theorem lw_p5 : lw_okq (⟨"RestedArms$Indices", "turn", "(LRestedArms$Board;II)V"⟩, 4) := ⟨⟨by decide +kernel, by decide +kernel⟩, List.mem_of_getElem? (i := 108) (by decide +kernel), List.mem_of_getElem? (i := 375) (by decide +kernel), List.mem_of_getElem? (i := 376) (by decide +kernel)⟩
theorem lw_p6 : lw_okq (⟨"RestedArms$Indices", "indexNow", "(LRestedArms$Board;I)J"⟩, 4) := ⟨⟨by decide +kernel, by decide +kernel⟩, List.mem_of_getElem? (i := 108) (by decide +kernel), List.mem_of_getElem? (i := 394) (by decide +kernel), List.mem_of_getElem? (i := 395) (by decide +kernel)⟩
theorem lw_p7 : lw_okq (⟨"RestedArms", "bestState", "(I)I"⟩, 6) := ⟨⟨by decide +kernel, by decide +kernel⟩, List.mem_of_getElem? (i := 17) (by decide +kernel), List.mem_of_getElem? (i := 398) (by decide +kernel), List.mem_of_getElem? (i := 399) (by decide +kernel)⟩
theorem lw_p8 : lw_okq (⟨"RestedArms", "roundsNeeded", "(I)I"⟩, 6) := ⟨⟨by decide +kernel, by decide +kernel⟩, List.mem_of_getElem? (i := 17) (by decide +kernel), List.mem_of_getElem? (i := 404) (by decide +kernel), List.mem_of_getElem? (i := 405) (by decide +kernel)⟩
theorem lw_p9 : lw_okq (⟨"RestedArms", "reachedFrom", "(II)I"⟩, 6) := ⟨⟨by decide +kernel, by decide +kernel⟩, List.mem_of_getElem? (i := 17) (by decide +kernel), List.mem_of_getElem? (i := 421) (by decide +kernel), List.mem_of_getElem? (i := 422) (by decide +kernel)⟩
theorem lw_p10 : lw_okq (⟨"RestedArms", "nextOf", "(I)I"⟩, 6) := ⟨⟨by decide +kernel, by decide +kernel⟩, List.mem_of_getElem? (i := 17) (by decide +kernel), List.mem_of_getElem? (i := 425) (by decide +kernel), List.mem_of_getElem? (i := 426) (by decide +kernel)⟩
theorem lw_p11 : lw_okq (⟨"RestedArms", "chosenBy", "(LRestedArms$Board;I)I"⟩, 6) := ⟨⟨by decide +kernel, by decide +kernel⟩, List.mem_of_getElem? (i := 17) (by decide +kernel), List.mem_of_getElem? (i := 442) (by decide +kernel), List.mem_of_getElem? (i := 443) (by decide +kernel)⟩
theorem lw_p12 : lw_okq (⟨"RestedArms", "scoreAll", "(LRestedArms$Board;I)V"⟩, 6) := ⟨⟨by decide +kernel, by decide +kernel⟩, List.mem_of_getElem? (i := 17) (by decide +kernel), List.mem_of_getElem? (i := 446) (by decide +kernel), List.mem_of_getElem? (i := 447) (by decide +kernel)⟩
theorem lw_p13 : lw_okq (⟨"RestedArms", "greatestScore", "(I)I"⟩, 6) := ⟨⟨by decide +kernel, by decide +kernel⟩, List.mem_of_getElem? (i := 17) (by decide +kernel), List.mem_of_getElem? (i := 460) (by decide +kernel), List.mem_of_getElem? (i := 461) (by decide +kernel)⟩
theorem lw_p14 : lw_okq (⟨"RestedArms", "gain", "(II)J"⟩, 6) := ⟨⟨by decide +kernel, by decide +kernel⟩, List.mem_of_getElem? (i := 17) (by decide +kernel), List.mem_of_getElem? (i := 472) (by decide +kernel), List.mem_of_getElem? (i := 473) (by decide +kernel)⟩
theorem lw_p15 : lw_okq (⟨"RestedArms", "playOn", "(LRestedArms$Board;II)V"⟩, 6) := ⟨⟨by decide +kernel, by decide +kernel⟩, List.mem_of_getElem? (i := 17) (by decide +kernel), List.mem_of_getElem? (i := 477) (by decide +kernel), List.mem_of_getElem? (i := 478) (by decide +kernel)⟩
def lw_privs_1 : List (MethodName × Nat) := [(⟨"RestedArms$History", "moveOldestBehind", "()V"⟩, 2), (⟨"RestedArms$History", "boardAt", "(I)LRestedArms$Board;"⟩, 2), (⟨"java/lang/Throwable", "fillInStackTrace", "(I)Ljava/lang/Throwable;"⟩, 6), (⟨"RestedArms", "hashOfArm", "(JI)J"⟩, 6), (⟨"RestedArms$Indices", "clearValues", "()V"⟩, 4), (⟨"RestedArms$Indices", "turn", "(LRestedArms$Board;II)V"⟩, 4), (⟨"RestedArms$Indices", "indexNow", "(LRestedArms$Board;I)J"⟩, 4), (⟨"RestedArms", "bestState", "(I)I"⟩, 6), (⟨"RestedArms", "roundsNeeded", "(I)I"⟩, 6), (⟨"RestedArms", "reachedFrom", "(II)I"⟩, 6), (⟨"RestedArms", "nextOf", "(I)I"⟩, 6), (⟨"RestedArms", "chosenBy", "(LRestedArms$Board;I)I"⟩, 6), (⟨"RestedArms", "scoreAll", "(LRestedArms$Board;I)V"⟩, 6), (⟨"RestedArms", "greatestScore", "(I)I"⟩, 6), (⟨"RestedArms", "gain", "(II)J"⟩, 6), (⟨"RestedArms", "playOn", "(LRestedArms$Board;II)V"⟩, 6)]
theorem lw_r1 : ∀ q ∈ lw_privs_1, lw_okq q := List.forall_mem_cons.mpr ⟨lw_p0, List.forall_mem_cons.mpr ⟨lw_p1, List.forall_mem_cons.mpr ⟨lw_p2, List.forall_mem_cons.mpr ⟨lw_p3, List.forall_mem_cons.mpr ⟨lw_p4, List.forall_mem_cons.mpr ⟨lw_p5, List.forall_mem_cons.mpr ⟨lw_p6, List.forall_mem_cons.mpr ⟨lw_p7, List.forall_mem_cons.mpr ⟨lw_p8, List.forall_mem_cons.mpr ⟨lw_p9, List.forall_mem_cons.mpr ⟨lw_p10, List.forall_mem_cons.mpr ⟨lw_p11, List.forall_mem_cons.mpr ⟨lw_p12, List.forall_mem_cons.mpr ⟨lw_p13, List.forall_mem_cons.mpr ⟨lw_p14, List.forall_mem_cons.mpr ⟨lw_p15, fun _ h => absurd h List.not_mem_nil⟩⟩⟩⟩⟩⟩⟩⟩⟩⟩⟩⟩⟩⟩⟩⟩
theorem lw_p16 : lw_okq (⟨"RestedArms$Board", "goOn", "(I)V"⟩, 12) := ⟨⟨by decide +kernel, by decide +kernel⟩, List.mem_of_getElem? (i := 25) (by decide +kernel), List.mem_of_getElem? (i := 489) (by decide +kernel), List.mem_of_getElem? (i := 490) (by decide +kernel)⟩
theorem lw_p17 : lw_okq (⟨"RestedArms", "wouldChoose", "(III)Z"⟩, 6) := ⟨⟨by decide +kernel, by decide +kernel⟩, List.mem_of_getElem? (i := 17) (by decide +kernel), List.mem_of_getElem? (i := 503) (by decide +kernel), List.mem_of_getElem? (i := 504) (by decide +kernel)⟩
theorem lw_p18 : lw_okq (⟨"RestedArmsModel", "fails", "(I)I"⟩, 13) := ⟨⟨by decide +kernel, by decide +kernel⟩, List.mem_of_getElem? (i := 672) (by decide +kernel), List.mem_of_getElem? (i := 731) (by decide +kernel), List.mem_of_getElem? (i := 732) (by decide +kernel)⟩
theorem lw_p19 : lw_okq (⟨"RestedArmsModel", "saves", "()V"⟩, 13) := ⟨⟨by decide +kernel, by decide +kernel⟩, List.mem_of_getElem? (i := 672) (by decide +kernel), List.mem_of_getElem? (i := 748) (by decide +kernel), List.mem_of_getElem? (i := 749) (by decide +kernel)⟩
theorem lw_p20 : lw_okq (⟨"RestedArmsModel", "changes", "(II)I"⟩, 13) := ⟨⟨by decide +kernel, by decide +kernel⟩, List.mem_of_getElem? (i := 672) (by decide +kernel), List.mem_of_getElem? (i := 752) (by decide +kernel), List.mem_of_getElem? (i := 753) (by decide +kernel)⟩
theorem lw_p21 : lw_okq (⟨"RestedArmsModel", "ways", "(IIIII)I"⟩, 13) := ⟨⟨by decide +kernel, by decide +kernel⟩, List.mem_of_getElem? (i := 672) (by decide +kernel), List.mem_of_getElem? (i := 760) (by decide +kernel), List.mem_of_getElem? (i := 761) (by decide +kernel)⟩
theorem lw_p22 : lw_okq (⟨"RestedArmsModel", "plays", "([JII)V"⟩, 13) := ⟨⟨by decide +kernel, by decide +kernel⟩, List.mem_of_getElem? (i := 672) (by decide +kernel), List.mem_of_getElem? (i := 812) (by decide +kernel), List.mem_of_getElem? (i := 813) (by decide +kernel)⟩
theorem lw_p23 : lw_okq (⟨"RestedArmsModel", "chosen", "([JI)I"⟩, 13) := ⟨⟨by decide +kernel, by decide +kernel⟩, List.mem_of_getElem? (i := 672) (by decide +kernel), List.mem_of_getElem? (i := 816) (by decide +kernel), List.mem_of_getElem? (i := 817) (by decide +kernel)⟩
theorem lw_p24 : lw_okq (⟨"RestedArmsModel", "worth", "([JII)J"⟩, 13) := ⟨⟨by decide +kernel, by decide +kernel⟩, List.mem_of_getElem? (i := 672) (by decide +kernel), List.mem_of_getElem? (i := 820) (by decide +kernel), List.mem_of_getElem? (i := 821) (by decide +kernel)⟩
theorem lw_p25 : lw_okq (⟨"RestedArmsModel", "indexOf", "([JII)J"⟩, 13) := ⟨⟨by decide +kernel, by decide +kernel⟩, List.mem_of_getElem? (i := 672) (by decide +kernel), List.mem_of_getElem? (i := 824) (by decide +kernel), List.mem_of_getElem? (i := 825) (by decide +kernel)⟩
theorem lw_p26 : lw_okq (⟨"RestedArmsModel", "begins", "()V"⟩, 13) := ⟨⟨by decide +kernel, by decide +kernel⟩, List.mem_of_getElem? (i := 672) (by decide +kernel), List.mem_of_getElem? (i := 828) (by decide +kernel), List.mem_of_getElem? (i := 829) (by decide +kernel)⟩
theorem lw_p27 : lw_okq (⟨"RestedArmsModel", "round", "([JII)V"⟩, 13) := ⟨⟨by decide +kernel, by decide +kernel⟩, List.mem_of_getElem? (i := 672) (by decide +kernel), List.mem_of_getElem? (i := 832) (by decide +kernel), List.mem_of_getElem? (i := 833) (by decide +kernel)⟩
theorem lw_p28 : lw_okq (⟨"RestedArmsModel", "expected", "([JII)J"⟩, 13) := ⟨⟨by decide +kernel, by decide +kernel⟩, List.mem_of_getElem? (i := 672) (by decide +kernel), List.mem_of_getElem? (i := 836) (by decide +kernel), List.mem_of_getElem? (i := 837) (by decide +kernel)⟩
theorem lw_p29 : lw_okq (⟨"RestedArmsModel", "indexBy", "([JI)J"⟩, 13) := ⟨⟨by decide +kernel, by decide +kernel⟩, List.mem_of_getElem? (i := 672) (by decide +kernel), List.mem_of_getElem? (i := 841) (by decide +kernel), List.mem_of_getElem? (i := 842) (by decide +kernel)⟩
theorem lw_p30 : lw_okq (⟨"RestedArmsModel", "isText", "()Z"⟩, 13) := ⟨⟨by decide +kernel, by decide +kernel⟩, List.mem_of_getElem? (i := 672) (by decide +kernel), List.mem_of_getElem? (i := 862) (by decide +kernel), List.mem_of_getElem? (i := 863) (by decide +kernel)⟩
theorem lw_p31 : lw_okq (⟨"RestedArmsModel", "isPart", "()Z"⟩, 13) := ⟨⟨by decide +kernel, by decide +kernel⟩, List.mem_of_getElem? (i := 672) (by decide +kernel), List.mem_of_getElem? (i := 866) (by decide +kernel), List.mem_of_getElem? (i := 867) (by decide +kernel)⟩
def lw_privs_2 : List (MethodName × Nat) := [(⟨"RestedArms$Board", "goOn", "(I)V"⟩, 12), (⟨"RestedArms", "wouldChoose", "(III)Z"⟩, 6), (⟨"RestedArmsModel", "fails", "(I)I"⟩, 13), (⟨"RestedArmsModel", "saves", "()V"⟩, 13), (⟨"RestedArmsModel", "changes", "(II)I"⟩, 13), (⟨"RestedArmsModel", "ways", "(IIIII)I"⟩, 13), (⟨"RestedArmsModel", "plays", "([JII)V"⟩, 13), (⟨"RestedArmsModel", "chosen", "([JI)I"⟩, 13), (⟨"RestedArmsModel", "worth", "([JII)J"⟩, 13), (⟨"RestedArmsModel", "indexOf", "([JII)J"⟩, 13), (⟨"RestedArmsModel", "begins", "()V"⟩, 13), (⟨"RestedArmsModel", "round", "([JII)V"⟩, 13), (⟨"RestedArmsModel", "expected", "([JII)J"⟩, 13), (⟨"RestedArmsModel", "indexBy", "([JI)J"⟩, 13), (⟨"RestedArmsModel", "isText", "()Z"⟩, 13), (⟨"RestedArmsModel", "isPart", "()Z"⟩, 13)]
theorem lw_r2 : ∀ q ∈ lw_privs_2, lw_okq q := List.forall_mem_cons.mpr ⟨lw_p16, List.forall_mem_cons.mpr ⟨lw_p17, List.forall_mem_cons.mpr ⟨lw_p18, List.forall_mem_cons.mpr ⟨lw_p19, List.forall_mem_cons.mpr ⟨lw_p20, List.forall_mem_cons.mpr ⟨lw_p21, List.forall_mem_cons.mpr ⟨lw_p22, List.forall_mem_cons.mpr ⟨lw_p23, List.forall_mem_cons.mpr ⟨lw_p24, List.forall_mem_cons.mpr ⟨lw_p25, List.forall_mem_cons.mpr ⟨lw_p26, List.forall_mem_cons.mpr ⟨lw_p27, List.forall_mem_cons.mpr ⟨lw_p28, List.forall_mem_cons.mpr ⟨lw_p29, List.forall_mem_cons.mpr ⟨lw_p30, List.forall_mem_cons.mpr ⟨lw_p31, fun _ h => absurd h List.not_mem_nil⟩⟩⟩⟩⟩⟩⟩⟩⟩⟩⟩⟩⟩⟩⟩⟩
theorem lw_p32 : lw_okq (⟨"RestedArmsModel", "isSign", "(III)Z"⟩, 13) := ⟨⟨by decide +kernel, by decide +kernel⟩, List.mem_of_getElem? (i := 672) (by decide +kernel), List.mem_of_getElem? (i := 870) (by decide +kernel), List.mem_of_getElem? (i := 871) (by decide +kernel)⟩
theorem lw_p33 : lw_okq (⟨"RestedArmsModel", "isAt", "(II)Z"⟩, 13) := ⟨⟨by decide +kernel, by decide +kernel⟩, List.mem_of_getElem? (i := 672) (by decide +kernel), List.mem_of_getElem? (i := 874) (by decide +kernel), List.mem_of_getElem? (i := 875) (by decide +kernel)⟩
theorem lw_p34 : lw_okq (⟨"RestedArmsModel", "stops", "()Z"⟩, 13) := ⟨⟨by decide +kernel, by decide +kernel⟩, List.mem_of_getElem? (i := 672) (by decide +kernel), List.mem_of_getElem? (i := 878) (by decide +kernel), List.mem_of_getElem? (i := 879) (by decide +kernel)⟩
theorem lw_p35 : lw_okq (⟨"RestedArmsModel", "isGift", "()Z"⟩, 13) := ⟨⟨by decide +kernel, by decide +kernel⟩, List.mem_of_getElem? (i := 672) (by decide +kernel), List.mem_of_getElem? (i := 882) (by decide +kernel), List.mem_of_getElem? (i := 883) (by decide +kernel)⟩
theorem lw_p36 : lw_okq (⟨"RestedArmsModel", "ofState", "(III)I"⟩, 13) := ⟨⟨by decide +kernel, by decide +kernel⟩, List.mem_of_getElem? (i := 672) (by decide +kernel), List.mem_of_getElem? (i := 894) (by decide +kernel), List.mem_of_getElem? (i := 895) (by decide +kernel)⟩
theorem lw_p37 : lw_okq (⟨"RestedArmsModel", "reached", "(II)I"⟩, 13) := ⟨⟨by decide +kernel, by decide +kernel⟩, List.mem_of_getElem? (i := 672) (by decide +kernel), List.mem_of_getElem? (i := 898) (by decide +kernel), List.mem_of_getElem? (i := 899) (by decide +kernel)⟩
theorem lw_p38 : lw_okq (⟨"RestedArmsModel", "ofArm", "(II)I"⟩, 13) := ⟨⟨by decide +kernel, by decide +kernel⟩, List.mem_of_getElem? (i := 672) (by decide +kernel), List.mem_of_getElem? (i := 910) (by decide +kernel), List.mem_of_getElem? (i := 911) (by decide +kernel)⟩
theorem lw_p39 : lw_okq (⟨"RestedArmsModel", "greatest", "(I)I"⟩, 13) := ⟨⟨by decide +kernel, by decide +kernel⟩, List.mem_of_getElem? (i := 672) (by decide +kernel), List.mem_of_getElem? (i := 914) (by decide +kernel), List.mem_of_getElem? (i := 915) (by decide +kernel)⟩
theorem lw_p40 : lw_okq (⟨"RestedArmsModel", "rounds", "(I)I"⟩, 13) := ⟨⟨by decide +kernel, by decide +kernel⟩, List.mem_of_getElem? (i := 672) (by decide +kernel), List.mem_of_getElem? (i := 918) (by decide +kernel), List.mem_of_getElem? (i := 919) (by decide +kernel)⟩
theorem lw_p41 : lw_okq (⟨"RestedArmsModel", "counted", "(I)I"⟩, 13) := ⟨⟨by decide +kernel, by decide +kernel⟩, List.mem_of_getElem? (i := 672) (by decide +kernel), List.mem_of_getElem? (i := 926) (by decide +kernel), List.mem_of_getElem? (i := 927) (by decide +kernel)⟩
theorem lw_p42 : lw_okq (⟨"RestedArmsModel", "byPlay", "(II)J"⟩, 13) := ⟨⟨by decide +kernel, by decide +kernel⟩, List.mem_of_getElem? (i := 672) (by decide +kernel), List.mem_of_getElem? (i := 946) (by decide +kernel), List.mem_of_getElem? (i := 947) (by decide +kernel)⟩
theorem lw_p43 : lw_okq (⟨"RestedArmsModel", "tries", "()V"⟩, 13) := ⟨⟨by decide +kernel, by decide +kernel⟩, List.mem_of_getElem? (i := 672) (by decide +kernel), List.mem_of_getElem? (i := 950) (by decide +kernel), List.mem_of_getElem? (i := 951) (by decide +kernel)⟩
theorem lw_p44 : lw_okq (⟨"RestedArmsModel", "best", "(I)I"⟩, 13) := ⟨⟨by decide +kernel, by decide +kernel⟩, List.mem_of_getElem? (i := 672) (by decide +kernel), List.mem_of_getElem? (i := 958) (by decide +kernel), List.mem_of_getElem? (i := 959) (by decide +kernel)⟩
theorem lw_p45 : lw_okq (⟨"RestedArmsModel", "least", "(II)I"⟩, 13) := ⟨⟨by decide +kernel, by decide +kernel⟩, List.mem_of_getElem? (i := 672) (by decide +kernel), List.mem_of_getElem? (i := 966) (by decide +kernel), List.mem_of_getElem? (i := 967) (by decide +kernel)⟩
theorem lw_p46 : lw_okq (⟨"RestedArmsModel", "even", "()D"⟩, 13) := ⟨⟨by decide +kernel, by decide +kernel⟩, List.mem_of_getElem? (i := 672) (by decide +kernel), List.mem_of_getElem? (i := 974) (by decide +kernel), List.mem_of_getElem? (i := 975) (by decide +kernel)⟩
def lw_privs_3 : List (MethodName × Nat) := [(⟨"RestedArmsModel", "isSign", "(III)Z"⟩, 13), (⟨"RestedArmsModel", "isAt", "(II)Z"⟩, 13), (⟨"RestedArmsModel", "stops", "()Z"⟩, 13), (⟨"RestedArmsModel", "isGift", "()Z"⟩, 13), (⟨"RestedArmsModel", "ofState", "(III)I"⟩, 13), (⟨"RestedArmsModel", "reached", "(II)I"⟩, 13), (⟨"RestedArmsModel", "ofArm", "(II)I"⟩, 13), (⟨"RestedArmsModel", "greatest", "(I)I"⟩, 13), (⟨"RestedArmsModel", "rounds", "(I)I"⟩, 13), (⟨"RestedArmsModel", "counted", "(I)I"⟩, 13), (⟨"RestedArmsModel", "byPlay", "(II)J"⟩, 13), (⟨"RestedArmsModel", "tries", "()V"⟩, 13), (⟨"RestedArmsModel", "best", "(I)I"⟩, 13), (⟨"RestedArmsModel", "least", "(II)I"⟩, 13), (⟨"RestedArmsModel", "even", "()D"⟩, 13)]
theorem lw_r3 : ∀ q ∈ lw_privs_3, lw_okq q := List.forall_mem_cons.mpr ⟨lw_p32, List.forall_mem_cons.mpr ⟨lw_p33, List.forall_mem_cons.mpr ⟨lw_p34, List.forall_mem_cons.mpr ⟨lw_p35, List.forall_mem_cons.mpr ⟨lw_p36, List.forall_mem_cons.mpr ⟨lw_p37, List.forall_mem_cons.mpr ⟨lw_p38, List.forall_mem_cons.mpr ⟨lw_p39, List.forall_mem_cons.mpr ⟨lw_p40, List.forall_mem_cons.mpr ⟨lw_p41, List.forall_mem_cons.mpr ⟨lw_p42, List.forall_mem_cons.mpr ⟨lw_p43, List.forall_mem_cons.mpr ⟨lw_p44, List.forall_mem_cons.mpr ⟨lw_p45, List.forall_mem_cons.mpr ⟨lw_p46, fun _ h => absurd h List.not_mem_nil⟩⟩⟩⟩⟩⟩⟩⟩⟩⟩⟩⟩⟩⟩⟩
def lw_privs : List (MethodName × Nat) := lw_privs_1 ++ (lw_privs_2 ++ (lw_privs_3))
def lw_tbl : List Cond := k2_sels lw_privs ++ tables_1
theorem lw_privs_ok : ∀ q ∈ lw_privs, lw_okq q := by
  show ∀ q ∈ lw_privs_1 ++ (lw_privs_2 ++ (lw_privs_3)), lw_okq q
  exact List.forall_mem_append.mpr ⟨lw_r1, List.forall_mem_append.mpr ⟨lw_r2, lw_r3⟩⟩
/-- the streams that the claim lets the run draw from -/
abbrev lw_cs : List Choice := [Jvm.Choice.named "NaN.bits"]
theorem lw_bits : nanBits ∈ lw_cs := by first | decide | exact List.mem_cons_self | simp [lw_cs, nanBits]
end
section
/-! ===== BEGIN words of one list among another's, by their places ===== -/
theorem goodIn_r {big : List Cond} (ws : List Cond) (ps : List Nat) (hp : ws = ps.filterMap (fun i => big[i]?)) (h : ws.all goodWord = true) : GoodIn big ws := by
  intro w hw
  have h1 := List.all_eq_true.mp h w hw
  rw [hp] at hw
  obtain ⟨i, -, hi⟩ := List.mem_filterMap.mp hw
  have hm : w ∈ big := by first | exact List.mem_of_getElem? hi | exact List.getElem?_mem hi
  exact ⟨hm, good_of_word h1⟩
theorem goodIn_app {big a b : List Cond} (ha : GoodIn big a) (hb : GoodIn big b) : GoodIn big (a ++ b) := fun w h => (List.mem_append.mp h).elim (ha w) (hb w)
theorem goodIn_ca {big a b : List Cond} {c : Cond} (ha : GoodIn big (c :: a)) (hb : GoodIn big b) : GoodIn big (c :: (a ++ b)) := fun w h => (List.mem_cons.mp h).elim (fun e => ha w (List.mem_cons.mpr (Or.inl e))) (fun h => (List.mem_append.mp h).elim (fun h => ha w (List.mem_cons.mpr (Or.inr h))) (hb w))
theorem goodIn_sub {big ws : List Cond} (hm : ∀ w ∈ ws, w ∈ big) (h : ws.all goodWord = true) : GoodIn big ws := fun w hw => ⟨hm w hw, good_of_word (List.all_eq_true.mp h w hw)⟩
/-! ===== END ===== -/

/-! ===== BEGIN exceptions that leave a method, and their catching by the caller (launches without stack traces) ===== -/
section VXA
/-! The laws vx_back, vx_callV, vx_callS, vx_callSW, vx_throw0, vx_throwS follow proofs of the library, with one case more: JvmDerived/Free/Laws.lean (Back.of_free), Shelf42/LK1.lean (callV, callS), Shelf/KitTraced.lean (throwNew0V, throwNewS). -/
/-- where a method has thrown q: the class by its name, the cell, what was written, the world -/
def vx_T (XC : String → State → State → Prop) (st : State) (q : Addr) (t : State) (mc ms : Nat) (free : Addr → Prop) : Prop :=
  ∃ (E : String) (ce : Cell) (L : List Loc), XC E st t ∧ t.heap[q]? = some ce ∧ ce.vm = .none ∧ st.vm.findClass E = some ce.cls ∧ st.WarmedH t.vm ∧ st.sameButNew ({ t with vm := st.vm } : State) L mc ms ∧ ∀ z ∈ L, free z.base
def vx_Q (Qc : Array Value → State → Outcome → State → Prop) (XC : String → State → State → Prop) (mc ms : Nat) (free : Addr → Prop) : Array Value → State → Outcome → State → Prop := fun a st o t =>
  (Qc a st o t ∧ ∃ L, FrameEnd st o t L mc ms ∧ ∀ q ∈ L, free q.base) ∨ ∃ q, o = .threw q ∧ vx_T XC st q t mc ms free
/-- a callee that returns or throws -/
def vx_Met (l : Launch) (y : MethodName) (ws : List Cond) (rm : Room) (Pc : Array Value → State → Prop) (Qc : Array Value → State → Outcome → State → Prop) (XC : String → State → State → Prop) (mc ms : Nat) (free : Addr → Prop) : Prop :=
  MetFree l y (headSpec ws rm) Pc (fun _ _ _ _ _ => True) (vx_Q Qc XC mc ms free)
def vx_Post (XC : String → State → State → Prop) (mc ms : Nat) (free : Addr → Prop) : Pt → Array Value → Addr → Pt → Prop := fun A a q B =>
  ∃ (g : JFrame) (mk : MethodId) (t : State) (L : List Loc) (E : String) (ce : Cell), B.U.heap = t.heap ∧ B.U.vm = t.vm ∧ XC E (A.U.calling g mk a) t ∧ t.heap[q]? = some ce ∧ ce.vm = .none ∧ A.U.vm.findClass E = some ce.cls ∧ B.locs = A.locs ++ L ∧ (∀ z ∈ L, free z.base) ∧ B.cells = A.cells + mc ∧ B.slots = A.slots + ms
def vx_Back (l : Launch) (R : Room) (p : Program) (e : Env) (below : List Frame) (s : State) (sargs : Array Value) (y : MethodName) (len W9 : Nat)
    (Pre : Pt → Array Value → Prop) (Post : Pt → Array Value → Option Value → Pt → Prop) (PostX : Pt → Array Value → Addr → Pt → Prop) : Prop :=
  ∀ (m : MethodId) (meth : Method) (c : Code) (A : Pt) (g : JFrame) (ig : Instr) (mk : MethodId) (a : Array Value),
    Stand p l e R s m sargs below meth c A.U A.locs A.cells A.slots → g.method = m → g.locals.size = c.maxLocals → decode c.code g.pc = .ok (ig, len) →
    2 * g.monitorRoom + (g.stack.map fun v => v.category).sum ≤ W9 → A.U.methodNamed? y = some mk → Pre A a →
    (∃ (v : Option Value) (B : Pt), Stand p l e R s m sargs below meth c B.U B.locs B.cells B.slots ∧ Post A a v B ∧
      Steps p.tables e below (doInvoke e (A.U.setTop g) [] mk a).1 (B.U.setTop { g with pc := g.pc + len, stack := v.toList ++ g.stack })) ∨
    (∃ (q : Addr) (B : Pt), Stand p l e R s m sargs below meth c B.U B.locs B.cells B.slots ∧ PostX A a q B ∧
      Steps p.tables e below (doInvoke e (A.U.setTop g) [] mk a).1 ((B.U.setTop g).pushFrame (.throwing q)))
section Payer
variable {l : Launch} {R : Room} {p : Program} {e : Env} {below : List Frame} {s : State} {sargs : Array Value} {y : MethodName} {len W9 : Nat}
theorem vx_back {ws : List Cond} {rm : Room} {Pc : Array Value → State → Prop} {Qc : Array Value → State → Outcome → State → Prop} {XC : String → State → State → Prop} {mc ms : Nat} {free : Addr → Prop} {bytes : ByteArray} {maxL : Nat} {ret : Option FieldType}
    (hM : vx_Met l y ws rm Pc Qc XC mc ms free) (hblind : FrameBlind Pc) (hrc : rm.cells = mc) (hrs : rm.slots = ms)
    (hframes : rm.frames + 1 ≤ R.frames) (hlocals : W9 + (maxL + 11) + rm.locals ≤ R.locals)
    (hws : ∀ w ∈ ws, ∀ a' U, s.WarmedH U.vm → w.before a' U = true) (hcode : Cond.code y bytes maxL ret ∈ ws) (hinit : ∀ a' U, s.WarmedH U.vm → (Cond.initialized y.cls).before a' U = true) :
    vx_Back l R p e below s sargs y len W9 (PreOf R mc ms Pc) (PostOf Qc mc ms free) (vx_Post XC mc ms free) := by
  intro m meth c A g ig mk a X hg hsize hdg hW hn hp
  have h1 : (headSpec ws rm).pre.before a A.U = true := atoms_intro fun w hw => hws w hw _ _ X.warmed
  have h2 : (Cond.code y bytes maxL ret).before a A.U = true := hws _ hcode _ _ X.warmed
  have h3 : (Cond.initialized y.cls).before a A.U = true := hinit _ _ X.warmed
  have h4 : A.cells + (headSpec ws rm).room.cells ≤ R.cells := by rw [show (headSpec ws rm).room.cells = mc from hrc]; exact hp.1
  have h5 : A.slots + (headSpec ws rm).room.slots ≤ R.slots := by rw [show (headSpec ws rm).room.slots = ms from hrs]; exact hp.2.1
  have hPc : Pc a (A.U.calling g mk a) := hblind _ _ _ _ hp.2.2
  obtain ⟨U, Ls, c0, s0⟩ := A
  dsimp only [Pt.U, Pt.locs, Pt.cells, Pt.slots] at h1 h2 h3 h4 h5 X hn hPc ⊢
  obtain ⟨methY, cY, hmY, hcY, -, hlY, -, -, -, -⟩ := Cond.code_spec hn h2
  obtain ⟨kY, hkY, -⟩ := className_of_methodNamed hn
  have hinitY : kY.init = .initialized := Cond.initialized_spec (findClass_of_methodNamed hn) hkY h3
  have h : At U g.method c below := by rw [hg]; exact X.here
  have hlocals9 : W9 + (maxL + 11) + (headSpec ws rm).room.locals ≤ R.locals := hlocals
  have happ : (headSpec ws rm).appliesLoose y e.platform (U.calling g mk a) = true :=
    Spec.appliesLoose_calling (g := g) h hdg hn hkY hinitY
      (X.room_calling (g := g) (R' := (headSpec ws rm).room) hsize hmY hcY hframes (by rw [hlY]; omega) h4 h5) h1
  obtain ⟨mid, hmid⟩ := h.above
  have hfr : (U.setTop g).frames = (.java g :: mid) ++ below := by rw [State.frames_setTop' g h.top, hmid]; rfl
  obtain ⟨o, s₂, hsteps, -, hend, hq⟩ := Steps.callFree hM p X.admits X.cas X.clock (acts := []) hfr happ hPc trivial
  have hq' : vx_Q Qc XC mc ms free a (U.calling g mk a) o s₂ := hq
  rw [State.frames_setTop' g h.top] at hend
  obtain ⟨g₀, hg0⟩ := Option.isSome_iff_exists.mp h.top
  obtain ⟨r, hr⟩ := State.topJava?_eq_some.mp hg0
  have hr' : (({ U with heap := s₂.heap, slotsUsed := s₂.slotsUsed } : State).setVm s₂.vm).frames = .java g₀ :: r := hr
  rcases hq' with ⟨hqc, L, hfe, hL⟩ | ⟨q, rfl, E, ce, L, hx, hce, hcv, hcl, hW₂, hsm, hL⟩
  · obtain ⟨⟨v, rfl⟩, hW₂, e2, q2, q3, q4, q5, q6⟩ := id hfe
    have e3 : s₂ = ({ (U.calling g mk a).setFrames s₂.frames with heap := s₂.heap, slotsUsed := s₂.slotsUsed } : State).setVm s₂.vm := by
      have : s₂ = ({ s₂ with vm := (U.calling g mk a).vm } : State).setVm s₂.vm := rfl
      rw [e2] at this
      exact this
    obtain ⟨c₂, i₂, len₂, hc₂, hd₂, hf₂⟩ := hend
    have hW' : U.WarmedH s₂.vm := hW₂
    have hcc : c₂ = c := by
      have h1 : s₂.code? g.method = U.code? g.method := by
        rw [State.code?_eq, State.code?_eq, hW'.alike.method?]
      exact Option.some.inj (hc₂.symm.trans (h1.trans h.code))
    subst hcc
    have hlen : len₂ = len := by rw [hdg] at hd₂; cases hd₂; rfl
    subst hlen
    have hs₂ : s₂ = (({ U with heap := s₂.heap, slotsUsed := s₂.slotsUsed } : State).setVm s₂.vm).setTop { g with pc := g.pc + len₂, stack := v.toList ++ g.stack } := by
      refine e3.trans ?_
      rw [hf₂, State.calling_eq h.top, State.setFrames_setFrames, State.setTop_of_frames _ hr', hr]
      rfl
    have hsame : U.sameButNew ({ U with heap := s₂.heap, slotsUsed := s₂.slotsUsed } : State) L mc ms := by
      refine ⟨?_, q2, q3, q4, q5, q6⟩
      obtain ⟨t, ht, -⟩ := State.frames_cons hr
      show ({ U with heap := s₂.heap, slotsUsed := s₂.slotsUsed } : State) = { U.setFrames U.frames with heap := s₂.heap, slotsUsed := s₂.slotsUsed }
      rw [State.setFrames_self ht]
    subst hg
    refine Or.inl ⟨v, ⟨(({ U with heap := s₂.heap, slotsUsed := s₂.slotsUsed } : State).setVm s₂.vm), Ls ++ L, c0 + mc, s0 + ms⟩,
      ⟨X.admits, X.cas, X.clock, X.frames, X.room, X.hears, X.method, X.code, (X.here.setHeapUsed s₂.heap s₂.slotsUsed).setVm hW'.alike, X.tail, State.WarmedH.trans X.warmed hW', X.limits, X.bytes, X.same.trans (hsame.setVm s.vm)⟩,
      ⟨g, mk, s₂, L, rfl, rfl, hqc, rfl, hL, rfl, rfl⟩, ?_⟩
    show Steps p.tables e below _ ((({ U with heap := s₂.heap, slotsUsed := s₂.slotsUsed } : State).setVm s₂.vm).setTop { g with pc := g.pc + len₂, stack := v.toList ++ g.stack })
    rw [← hs₂]
    exact hsteps
  · obtain ⟨e2, q2, q3, q4, q5, q6⟩ := id hsm
    have e3 : s₂ = ({ (U.calling g mk a).setFrames s₂.frames with heap := s₂.heap, slotsUsed := s₂.slotsUsed } : State).setVm s₂.vm := by
      have : s₂ = ({ s₂ with vm := (U.calling g mk a).vm } : State).setVm s₂.vm := rfl
      rw [e2] at this
      exact this
    have hf₂ : s₂.frames = .throwing q :: .java g :: U.frames.tail := hend
    have hW' : U.WarmedH s₂.vm := hW₂
    have hs₂ : s₂ = ((({ U with heap := s₂.heap, slotsUsed := s₂.slotsUsed } : State).setVm s₂.vm).setTop g).pushFrame (.throwing q) := by
      refine e3.trans ?_
      rw [hf₂, State.calling_eq h.top, State.setFrames_setFrames, State.pushFrame, State.frames_setTop _ hr', State.setTop_of_frames _ hr', State.setFrames_setFrames, hr]
      rfl
    have hsame : U.sameButNew ({ U with heap := s₂.heap, slotsUsed := s₂.slotsUsed } : State) L mc ms := by
      refine ⟨?_, q2, q3, q4, q5, q6⟩
      obtain ⟨t, ht, -⟩ := State.frames_cons hr
      show ({ U with heap := s₂.heap, slotsUsed := s₂.slotsUsed } : State) = { U.setFrames U.frames with heap := s₂.heap, slotsUsed := s₂.slotsUsed }
      rw [State.setFrames_self ht]
    subst hg
    refine Or.inr ⟨q, ⟨(({ U with heap := s₂.heap, slotsUsed := s₂.slotsUsed } : State).setVm s₂.vm), Ls ++ L, c0 + mc, s0 + ms⟩,
      ⟨X.admits, X.cas, X.clock, X.frames, X.room, X.hears, X.method, X.code, (X.here.setHeapUsed s₂.heap s₂.slotsUsed).setVm hW'.alike, X.tail, State.WarmedH.trans X.warmed hW', X.limits, X.bytes, X.same.trans (hsame.setVm s.vm)⟩,
      ⟨g, mk, s₂, L, E, ce, rfl, rfl, hx, hce, hcv, hcl, rfl, hL, rfl, rfl⟩, ?_⟩
    show Steps p.tables e below _ (((({ U with heap := s₂.heap, slotsUsed := s₂.slotsUsed } : State).setVm s₂.vm).setTop g).pushFrame (.throwing q))
    rw [← hs₂]
    exact hsteps
end Payer
section Calls
variable {p : Program} {l : Launch} {e : Env} {R : Room} {s : State} {m : MethodId} {args : Array Value} {below : List Frame} {meth : Method} {c : Code} {T : State} {locs : List Loc} {cells slots : Nat}
theorem vx_callV (X : Stand p l e R s m args below meth c T locs cells slots) (hexec : p.tables.exec = Jvm.exec) {own C : String} {index : Nat} {y : MethodName} {bytes : ByteArray} {maxL : Nat} {ret : Option FieldType}
    (hown : s.vm.findClass own = some m.cls) (hlink : (Cond.methodLink own index y).before args s = true) (hinst : (Cond.instanceMethod y).before args s = true) (hsel : (Cond.selects C y y).before args s = true)
    (hcode : (Cond.code y bytes maxL ret).before args s = true) (hy : y.cls ≠ "java/lang/invoke/MethodHandle" ∧ y.cls ≠ "java/lang/invoke/VarHandle")
    {W9 : Nat} {Pre : Pt → Array Value → Prop} {Post : Pt → Array Value → Option Value → Pt → Prop} {PostX : Pt → Array Value → Addr → Pt → Prop} (hK : vx_Back l R p e below s args y 3 W9 Pre Post PostX)
    {b : Addr} {cellB : Cell} (hcell : T.heap[b]? = some cellB) (hobj : cellB.vm.isStatics = false) (hcls : s.vm.findClass C = some cellB.cls)
    {g : JFrame} (hg : g.method = m) (hsize : g.locals.size = c.maxLocals) {argsL rest : List Value} (hlen : ∀ sig, parseMethodDescriptor y.desc = some sig → argsL.length = sig.parameters.length)
    (hstack : g.stack = argsL.reverse ++ .ref b :: rest) (hW : 2 * g.monitorRoom + (rest.map fun v => v.category).sum ≤ W9) (hdg : decode c.code g.pc = .ok (.invokevirtual index, 3))
    (hpre : ∀ vm₁, s.WarmedH vm₁ → Pre ⟨T.setVm vm₁, locs, cells, slots⟩ (Value.ref b :: argsL).toArray) :
    (∃ (v : Option Value) (vm₁ : Vm) (B : Pt), s.WarmedH vm₁ ∧ Stand p l e R s m args below meth c B.U B.locs B.cells B.slots ∧ Post ⟨T.setVm vm₁, locs, cells, slots⟩ (Value.ref b :: argsL).toArray v B ∧
      ∀ target, Steps p.tables e below (B.U.setTop { g with pc := g.pc + 3, stack := v.toList ++ rest }) target → Steps p.tables e below (T.setTop g) target) ∨
    (∃ (q : Addr) (vm₁ : Vm) (B : Pt), s.WarmedH vm₁ ∧ Stand p l e R s m args below meth c B.U B.locs B.cells B.slots ∧ PostX ⟨T.setVm vm₁, locs, cells, slots⟩ (Value.ref b :: argsL).toArray q B ∧
      Steps p.tables e below (T.setTop g) ((B.U.setTop { g with stack := rest }).pushFrame (.throwing q))) := by
  obtain ⟨mk, methM, hnamed, hmethM, hstM, habM⟩ := Cond.instanceMethod_spec hinst
  obtain ⟨methM', cM, hmethM', -, -, -, -, -, -, hsigM⟩ := Cond.code_spec hnamed hcode
  cases hmethM.symm.trans hmethM'
  obtain ⟨c2, r2, m2, q1, q2, q3, q4, kP, hkP, hkPi⟩ := Cond.selects_spec hsel
  cases hcls.symm.trans q1
  cases (State.methodFound?_of_named hnamed hy).symm.trans q2
  cases hnamed.symm.trans q3
  have hselP : selectMethod e.platform s.vm cellB.cls mk = .method mk := by rw [Launch.admits_selectMethod X.admits]; exact q4
  obtain ⟨vm₁, X₁, hstep₁⟩ := X.invokevirtual hexec hown hlink hnamed hmethM hstM hkP hkPi hy (a := b) (cell := cellB) hcell
    (fun z h => by rw [h] at hobj; cases hobj) hselP hmethM habM hkP hkPi (g := g) hg (argsL := argsL) (rest := rest) (hlen _ hsigM) hstack hdg
  rcases hK m meth c ⟨T.setVm vm₁, locs, cells, slots⟩ { g with stack := rest } (.invokevirtual index) mk (Value.ref b :: argsL).toArray X₁ hg hsize hdg hW (X₁.named hnamed) (hpre vm₁ X₁.warmed) with ⟨v, B, X', hpost, hsteps⟩ | ⟨q, B, X', hpost, hsteps⟩
  · exact Or.inl ⟨v, vm₁, B, X₁.warmed, X', hpost, fun target h => hstep₁ _ fun acts => by rw [doInvoke_state]; exact hsteps.trans h⟩
  · exact Or.inr ⟨q, vm₁, B, X₁.warmed, X', hpost, hstep₁ _ fun acts => by rw [doInvoke_state]; exact hsteps⟩
theorem vx_callS (X : Stand p l e R s m args below meth c T locs cells slots) (hexec : p.tables.exec = Jvm.exec) {own : String} {index : Nat} {y : MethodName} {bytes : ByteArray} {maxL : Nat} {ret : Option FieldType}
    (hown : s.vm.findClass own = some m.cls) (hlink : (Cond.methodLink own index y).before args s = true) (hstat : (Cond.static y).before args s = true) (hinit : (Cond.initialized y.cls).before args s = true)
    (hcode : (Cond.code y bytes maxL ret).before args s = true) (hy : y.cls ≠ "java/lang/invoke/MethodHandle" ∧ y.cls ≠ "java/lang/invoke/VarHandle")
    {W9 : Nat} {Pre : Pt → Array Value → Prop} {Post : Pt → Array Value → Option Value → Pt → Prop} {PostX : Pt → Array Value → Addr → Pt → Prop} (hK : vx_Back l R p e below s args y 3 W9 Pre Post PostX)
    {g : JFrame} (hg : g.method = m) (hsize : g.locals.size = c.maxLocals) {argsL rest : List Value} (hlen : ∀ sig, parseMethodDescriptor y.desc = some sig → argsL.length = sig.parameters.length)
    (hstack : g.stack = argsL.reverse ++ rest) (hW : 2 * g.monitorRoom + (rest.map fun v => v.category).sum ≤ W9) (hdg : decode c.code g.pc = .ok (.invokestatic index, 3))
    (hpre : ∀ vm₁, s.WarmedH vm₁ → Pre ⟨T.setVm vm₁, locs, cells, slots⟩ argsL.toArray) :
    (∃ (v : Option Value) (vm₁ : Vm) (B : Pt), s.WarmedH vm₁ ∧ Stand p l e R s m args below meth c B.U B.locs B.cells B.slots ∧ Post ⟨T.setVm vm₁, locs, cells, slots⟩ argsL.toArray v B ∧
      ∀ target, Steps p.tables e below (B.U.setTop { g with pc := g.pc + 3, stack := v.toList ++ rest }) target → Steps p.tables e below (T.setTop g) target) ∨
    (∃ (q : Addr) (vm₁ : Vm) (B : Pt), s.WarmedH vm₁ ∧ Stand p l e R s m args below meth c B.U B.locs B.cells B.slots ∧ PostX ⟨T.setVm vm₁, locs, cells, slots⟩ argsL.toArray q B ∧
      Steps p.tables e below (T.setTop g) ((B.U.setTop { g with stack := rest }).pushFrame (.throwing q))) := by
  obtain ⟨mk, hnamed⟩ := Cond.code_named hcode
  obtain ⟨methM, cM, hmethM, -, -, -, -, -, -, hsigM⟩ := Cond.code_spec hnamed hcode
  have hstatic : methM.isStatic = true := Cond.static_spec hnamed hmethM hstat
  obtain ⟨kP, hkP, -⟩ := className_of_methodNamed hnamed
  have hinitP : kP.init = .initialized := Cond.initialized_spec (findClass_of_methodNamed hnamed) hkP hinit
  obtain ⟨vm₁, X₁, hstep₁⟩ := X.invokestatic hexec hown hlink hnamed hmethM hstatic hkP hinitP hy (g := g) hg (argsL := argsL) (rest := rest) (hlen _ hsigM) hstack hdg
  rcases hK m meth c ⟨T.setVm vm₁, locs, cells, slots⟩ { g with stack := rest } (.invokestatic index) mk argsL.toArray X₁ hg hsize hdg hW (X₁.named hnamed) (hpre vm₁ X₁.warmed) with ⟨v, B, X', hpost, hsteps⟩ | ⟨q, B, X', hpost, hsteps⟩
  · exact Or.inl ⟨v, vm₁, B, X₁.warmed, X', hpost, fun target h => hstep₁ _ fun acts => by rw [doInvoke_state]; exact hsteps.trans h⟩
  · exact Or.inr ⟨q, vm₁, B, X₁.warmed, X', hpost, hstep₁ _ fun acts => by rw [doInvoke_state]; exact hsteps⟩
end Calls
theorem vx_cls {s : State} {T : State} {vm₁ : Vm} {E : String} {k : ClassId} (hW : s.WarmedH vm₁) (h : (T.setVm vm₁).vm.findClass E = some k) : s.vm.findClass E = some k := by
  have h1 : vm₁.findClass E = some k := h
  rw [hW.alike.findClass] at h1
  exact h1
/-- the method's frame g, with q thrown over it -/
def vx_W (p : Program) (l : Launch) (e : Env) (R : Room) (s : State) (m : MethodId) (args : Array Value) (below : List Frame) (meth : Method) (c : Code) (H : Heap) (locs : List Loc) (cells slots : Nat) (Q : State → Prop) (g : JFrame) (q : Addr) : Prop :=
  ∀ T : State, T.heap = H → Stand p l e R s m args below meth c T locs cells slots → ∃ t, Steps p.tables e below ((T.setTop g).pushFrame (.throwing q)) t ∧ Q t
def vx_Run (p : Program) (l : Launch) (e : Env) (R : Room) (s : State) (m : MethodId) (args : Array Value) (below : List Frame) (meth : Method) (c : Code) (H : Heap) (locs : List Loc) (cells slots mc ms : Nat) (g : JFrame) (rest : List Value) (Qa : State → Outcome → State → Prop) (XC : String → State → State → Prop) (free : Addr → Prop) : Prop :=
  ∀ T : State, T.heap = H → Stand p l e R s m args below meth c T locs cells slots →
    (∃ (v : Option Value) (st₀ t T' : State) (L : List Loc), st₀.heap = H ∧ Stand p l e R s m args below meth c T' (locs ++ L) (cells + mc) (slots + ms) ∧ (∀ q ∈ L, free q.base) ∧ T'.heap = t.heap ∧ T'.vm = t.vm ∧ Qa st₀ (.returned v) t ∧
      Goes p e below T g T' { g with pc := g.pc + 3, stack := v.toList ++ rest }) ∨
    (∃ (q : Addr) (st₀ t T' : State) (L : List Loc) (E : String) (ce : Cell), st₀.heap = H ∧ Stand p l e R s m args below meth c T' (locs ++ L) (cells + mc) (slots + ms) ∧ (∀ z ∈ L, free z.base) ∧ T'.heap = t.heap ∧ T'.vm = t.vm ∧ XC E st₀ t ∧ t.heap[q]? = some ce ∧ ce.vm = .none ∧ s.vm.findClass E = some ce.cls ∧
      Steps p.tables e below (T.setTop g) ((T'.setTop { g with stack := rest }).pushFrame (.throwing q)))
def vx_X {S : Type} (px : S → Prop) (B : String → S → State → Prop) (A : Nat → Prop) : String → State → State → Prop := fun E st t => ∃ u : S, px u ∧ B E u t ∧ va_F A st t
section Runs
variable {p : Program} {l : Launch} {e : Env} {R : Room} {s : State} {m : MethodId} {args : Array Value} {below : List Frame} {meth : Method} {c : Code} {H : Heap} {locs : List Loc} {cells slots : Nat}
variable {y : MethodName} {bytes cc : ByteArray} {maxL nL mc ms n index : Nat} {ret : Option FieldType} {ws : List Cond} {rm : Room} {Pc : Array Value → State → Prop} {Qc : Array Value → State → Outcome → State → Prop} {XC : String → State → State → Prop} {free : Addr → Prop} {Ts : List Cond} {own C : String} {b : Addr} {As rest : List Value} {g : JFrame}
theorem vx_callBack (cb : CallB R s args own index y bytes maxL ret ws rm mc ms n) (hM : vx_Met l y ws rm Pc Qc XC mc ms free) (hbl : FrameBlind Pc) : vx_Back l R p e below s args y 3 8 (PreOf R mc ms Pc) (PostOf Qc mc ms free) (vx_Post XC mc ms free) := by
  obtain ⟨hrc, hrs, hfr, hlo, hws, hcw, -, hini, -⟩ := cb
  exact vx_back (bytes := bytes) (maxL := maxL) (ret := ret) hM hbl hrc hrs hfr hlo hws hcw (fun a' U hW => word_at hW (Or.inl (by first | rfl | simp [Cond.onTables, Cond.keeps, Cond.steady])) hini)
theorem vx_runV (S : CallFix p m c cc nL s args Ts own) (hM : vx_Met l y ws rm Pc Qc XC mc ms free) (cw : CallW R s args own C index y bytes maxL ret ws rm mc ms n) (hp : PreV s H C b Pc As)
    (hg : g.method = m) (hn : As.length = n) (hsize : g.locals.size = nL) (hstack : g.stack = As.reverse ++ .ref b :: rest) (hW : 2 * g.monitorRoom + (rest.map fun v => v.category).sum ≤ 8) (hdg : decode cc g.pc = .ok (.invokevirtual index, 3)) (hf : cells + mc ≤ R.cells ∧ slots + ms ≤ R.slots) :
    vx_Run p l e R s m args below meth c H locs cells slots mc ms g rest (Qc (Value.ref b :: As).toArray) XC free := by
  have hK : vx_Back l R p e below s args y 3 8 (PreOf R mc ms Pc) (PostOf Qc mc ms free) (vx_Post XC mc ms free) := vx_callBack cw.1 hM hp.1
  obtain ⟨⟨-, -, -, -, -, -, hcode, -, hy, hlen, hl⟩, hin, hse⟩ := cw
  obtain ⟨hx, hb, hml, ho, -⟩ := S
  obtain ⟨-, ⟨cellB, hcB, hoB, hclB⟩, hPc⟩ := hp
  intro T hT X
  rcases vx_callV X hx (C := C) (bytes := bytes) (maxL := maxL) (ret := ret) ho hl hin hse hcode hy hK (by rw [hT]; exact hcB) hoB hclB hg (hsize.trans hml.symm) (argsL := As) (rest := rest) (fun sig h => hn.trans (hlen sig h)) hstack hW (by rw [hb]; exact hdg)
    (fun vm₁ hW₁ => ⟨hf.1, hf.2, hPc (T.setVm vm₁) hT hW₁⟩) with ⟨v, vm₁, ⟨U', l2, c2, s2⟩, hW₁, X', ⟨g', mk, t, L, e1, e2, hq, h1, hL, h2, h3⟩, st⟩ | ⟨q, vm₁, ⟨U', l2, c2, s2⟩, hW₁, X', ⟨g', mk, t, L, E, ce, e1, e2, hq, hce, hcv, hcl, h1, hL, h2, h3⟩, st⟩
  · dsimp only [Pt.U, Pt.locs, Pt.cells, Pt.slots] at X' e1 e2 h1 h2 h3 st
    subst h1; subst h2; subst h3
    exact Or.inl ⟨v, (T.setVm vm₁).calling g' mk (Value.ref b :: As).toArray, t, U', L, hT, X', hL, e1, e2, hq, st⟩
  · dsimp only [Pt.U, Pt.locs, Pt.cells, Pt.slots] at X' e1 e2 h1 h2 h3 st hcl
    subst h1; subst h2; subst h3
    exact Or.inr ⟨q, (T.setVm vm₁).calling g' mk (Value.ref b :: As).toArray, t, U', L, E, ce, hT, X', hL, e1, e2, hq, hce, hcv, vx_cls hW₁ hcl, st⟩
theorem vx_runS (S : CallFix p m c cc nL s args Ts own) (hM : vx_Met l y ws rm Pc Qc XC mc ms free) (cw : CallB R s args own index y bytes maxL ret ws rm mc ms n ∧ (Cond.static y).before args s = true) (hp : PreS s H Pc As)
    (hg : g.method = m) (hn : As.length = n) (hsize : g.locals.size = nL) (hstack : g.stack = As.reverse ++ rest) (hW : 2 * g.monitorRoom + (rest.map fun v => v.category).sum ≤ 8) (hdg : decode cc g.pc = .ok (.invokestatic index, 3)) (hf : cells + mc ≤ R.cells ∧ slots + ms ≤ R.slots) :
    vx_Run p l e R s m args below meth c H locs cells slots mc ms g rest (Qc As.toArray) XC free := by
  have hK : vx_Back l R p e below s args y 3 8 (PreOf R mc ms Pc) (PostOf Qc mc ms free) (vx_Post XC mc ms free) := vx_callBack cw.1 hM hp.1
  obtain ⟨⟨-, -, -, -, -, -, hcode, hini, hy, hlen, hl⟩, hstt⟩ := cw
  obtain ⟨hx, hb, hml, ho, -⟩ := S
  intro T hT X
  rcases vx_callS X hx (bytes := bytes) (maxL := maxL) (ret := ret) ho hl hstt hini hcode hy hK hg (hsize.trans hml.symm) (argsL := As) (rest := rest) (fun sig h => hn.trans (hlen sig h)) hstack hW (by rw [hb]; exact hdg)
    (fun vm₁ hW₁ => ⟨hf.1, hf.2, hp.2 (T.setVm vm₁) hT hW₁⟩) with ⟨v, vm₁, ⟨U', l2, c2, s2⟩, hW₁, X', ⟨g', mk, t, L, e1, e2, hq, h1, hL, h2, h3⟩, st⟩ | ⟨q, vm₁, ⟨U', l2, c2, s2⟩, hW₁, X', ⟨g', mk, t, L, E, ce, e1, e2, hq, hce, hcv, hcl, h1, hL, h2, h3⟩, st⟩
  · dsimp only [Pt.U, Pt.locs, Pt.cells, Pt.slots] at X' e1 e2 h1 h2 h3 st
    subst h1; subst h2; subst h3
    exact Or.inl ⟨v, (T.setVm vm₁).calling g' mk As.toArray, t, U', L, hT, X', hL, e1, e2, hq, st⟩
  · dsimp only [Pt.U, Pt.locs, Pt.cells, Pt.slots] at X' e1 e2 h1 h2 h3 st hcl
    subst h1; subst h2; subst h3
    exact Or.inr ⟨q, (T.setVm vm₁).calling g' mk As.toArray, t, U', L, E, ce, hT, X', hL, e1, e2, hq, hce, hcv, vx_cls hW₁ hcl, st⟩
end Runs
section Rows
variable {p : Program} {l : Launch} {e : Env} {R : Room} {s : State} {m : MethodId} {args : Array Value} {below : List Frame} {meth : Method} {c : Code} {H : Heap} {locs : List Loc} {cells slots : Nat} {Q : State → Prop}
variable {mc ms : Nat} {free : Addr → Prop} {A0 A1 : Nat → Prop} {H0 : Heap} {a : Array Value} {pc : Nat} {ls : Array Slot} {st0 rest : List Value}
theorem vx_keep {st₀ t T' : State} {L : List Loc} (h0 : st₀.heap = H) (e1 : T'.heap = t.heap) (hS : va_S A0 H0 H locs) (hA : ∀ q, q < H.size → A1 q → A0 q) (hf : ∀ q, free q → A0 q) (hL : ∀ q ∈ L, free q.base) (hF : va_F A1 st₀ t) :
    H.size ≤ T'.heap.size ∧ (∀ q : Nat, q < H.size → ¬ A1 q → T'.heap[q]? = H[q]?) ∧ va_S A0 H0 T'.heap (locs ++ L) := by
  obtain ⟨hz, hk⟩ := hF
  rw [h0] at hz hk
  exact ⟨by rw [e1]; exact hz, fun q h1 h2 => by rw [e1]; exact hk q h1 h2,
    ⟨Nat.le_trans hS.1 (by rw [e1]; exact hz), fun q h1 h2 => by rw [e1, hk q (Nat.lt_of_lt_of_le h1 hS.1) (fun z => h2 (hA q (Nat.lt_of_lt_of_le h1 hS.1) z))]; exact hS.2.1 q h1 h2, fun q hq => by
      rcases List.mem_append.mp hq with h | h
      · exact hS.2.2 q h
      · exact hf _ (hL q h)⟩⟩
theorem vx_calli {S SX : Type} {post : Int32 → S → Prop} {px : SX → Prop} {B : S → State → Prop} {BX : String → SX → State → Prop} {AX : Nat → Prop} (hr : vx_Run p l e R s m args below meth c H locs cells slots mc ms (F0 m pc ls st0) rest (va_Qi post B A1 a) (vx_X px BX AX) free) (hS : va_S A0 H0 H locs) (hA : ∀ q, q < H.size → A1 q → A0 q) (hf : ∀ q, free q → A0 q) (hAX : ∀ q, q < H.size → AX q → A0 q)
    (kx : ∀ (E : String) (ce : Cell) (q9 : Addr) (u : SX) (t : State) (H1 : Heap) (locs1 : List Loc), t.heap = H1 → s.vm.Alike t.vm → px u → BX E u t → H.size ≤ H1.size → (∀ q : Nat, q < H.size → ¬ AX q → H1[q]? = H[q]?) → va_S A0 H0 H1 locs1 → H1[q9]? = some ce → ce.vm = .none → s.vm.findClass E = some ce.cls → vx_W p l e R s m args below meth c H1 locs1 (cells + mc) (slots + ms) Q (F0 m pc ls rest) q9)
    (kk : ∀ (r : Int32) (u : S) (t : State) (H1 : Heap) (locs1 : List Loc), t.heap = H1 → s.vm.Alike t.vm → post r u → B u t → H.size ≤ H1.size → (∀ q : Nat, q < H.size → ¬ A1 q → H1[q]? = H[q]?) → va_S A0 H0 H1 locs1 → W p l e R s m args below meth c H1 locs1 (cells + mc) (slots + ms) Q (F0 m (pc + 3) ls (.int r :: rest))) : W p l e R s m args below meth c H locs cells slots Q (F0 m pc ls st0) := by
  intro T hT X
  rcases hr T hT X with ⟨v, st₀, t, T', L, h0, X', hL, e1, e2, ⟨⟨r, u, hv, hp, hb⟩, hF⟩, st⟩ | ⟨q, st₀, t, T', L, E, ce, h0, X', hL, e1, e2, ⟨u, hp, hb, hF⟩, hce, hcv, hcl, st⟩
  · cases hv
    obtain ⟨k1, k2, k3⟩ := vx_keep h0 e1 hS hA hf hL hF
    obtain ⟨t2, a1, b1⟩ := kk r u t T'.heap (locs ++ L) e1.symm (by rw [← e2]; exact X'.warmed.alike) hp hb k1 k2 k3 T' rfl X'
    exact ⟨t2, st t2 a1, b1⟩
  · obtain ⟨k1, k2, k3⟩ := vx_keep h0 e1 hS hAX hf hL hF
    obtain ⟨t2, a1, b1⟩ := kx E ce q u t T'.heap (locs ++ L) e1.symm (by rw [← e2]; exact X'.warmed.alike) hp hb k1 k2 k3 (by rw [e1]; exact hce) hcv hcl T' rfl X'
    exact ⟨t2, st.trans a1, b1⟩
theorem vx_calll {S SX : Type} {post : Int64 → S → Prop} {px : SX → Prop} {B : S → State → Prop} {BX : String → SX → State → Prop} {AX : Nat → Prop} (hr : vx_Run p l e R s m args below meth c H locs cells slots mc ms (F0 m pc ls st0) rest (va_Ql post B A1 a) (vx_X px BX AX) free) (hS : va_S A0 H0 H locs) (hA : ∀ q, q < H.size → A1 q → A0 q) (hf : ∀ q, free q → A0 q) (hAX : ∀ q, q < H.size → AX q → A0 q)
    (kx : ∀ (E : String) (ce : Cell) (q9 : Addr) (u : SX) (t : State) (H1 : Heap) (locs1 : List Loc), t.heap = H1 → s.vm.Alike t.vm → px u → BX E u t → H.size ≤ H1.size → (∀ q : Nat, q < H.size → ¬ AX q → H1[q]? = H[q]?) → va_S A0 H0 H1 locs1 → H1[q9]? = some ce → ce.vm = .none → s.vm.findClass E = some ce.cls → vx_W p l e R s m args below meth c H1 locs1 (cells + mc) (slots + ms) Q (F0 m pc ls rest) q9)
    (kk : ∀ (r : Int64) (u : S) (t : State) (H1 : Heap) (locs1 : List Loc), t.heap = H1 → s.vm.Alike t.vm → post r u → B u t → H.size ≤ H1.size → (∀ q : Nat, q < H.size → ¬ A1 q → H1[q]? = H[q]?) → va_S A0 H0 H1 locs1 → W p l e R s m args below meth c H1 locs1 (cells + mc) (slots + ms) Q (F0 m (pc + 3) ls (.long r :: rest))) : W p l e R s m args below meth c H locs cells slots Q (F0 m pc ls st0) := by
  intro T hT X
  rcases hr T hT X with ⟨v, st₀, t, T', L, h0, X', hL, e1, e2, ⟨⟨r, u, hv, hp, hb⟩, hF⟩, st⟩ | ⟨q, st₀, t, T', L, E, ce, h0, X', hL, e1, e2, ⟨u, hp, hb, hF⟩, hce, hcv, hcl, st⟩
  · cases hv
    obtain ⟨k1, k2, k3⟩ := vx_keep h0 e1 hS hA hf hL hF
    obtain ⟨t2, a1, b1⟩ := kk r u t T'.heap (locs ++ L) e1.symm (by rw [← e2]; exact X'.warmed.alike) hp hb k1 k2 k3 T' rfl X'
    exact ⟨t2, st t2 a1, b1⟩
  · obtain ⟨k1, k2, k3⟩ := vx_keep h0 e1 hS hAX hf hL hF
    obtain ⟨t2, a1, b1⟩ := kx E ce q u t T'.heap (locs ++ L) e1.symm (by rw [← e2]; exact X'.warmed.alike) hp hb k1 k2 k3 (by rw [e1]; exact hce) hcv hcl T' rfl X'
    exact ⟨t2, st.trans a1, b1⟩
theorem vx_callf {S SX : Type} {post : UInt32 → S → Prop} {px : SX → Prop} {B : S → State → Prop} {BX : String → SX → State → Prop} {AX : Nat → Prop} (hr : vx_Run p l e R s m args below meth c H locs cells slots mc ms (F0 m pc ls st0) rest (va_Qf post B A1 a) (vx_X px BX AX) free) (hS : va_S A0 H0 H locs) (hA : ∀ q, q < H.size → A1 q → A0 q) (hf : ∀ q, free q → A0 q) (hAX : ∀ q, q < H.size → AX q → A0 q)
    (kx : ∀ (E : String) (ce : Cell) (q9 : Addr) (u : SX) (t : State) (H1 : Heap) (locs1 : List Loc), t.heap = H1 → s.vm.Alike t.vm → px u → BX E u t → H.size ≤ H1.size → (∀ q : Nat, q < H.size → ¬ AX q → H1[q]? = H[q]?) → va_S A0 H0 H1 locs1 → H1[q9]? = some ce → ce.vm = .none → s.vm.findClass E = some ce.cls → vx_W p l e R s m args below meth c H1 locs1 (cells + mc) (slots + ms) Q (F0 m pc ls rest) q9)
    (kk : ∀ (r : UInt32) (u : S) (t : State) (H1 : Heap) (locs1 : List Loc), t.heap = H1 → s.vm.Alike t.vm → post r u → B u t → H.size ≤ H1.size → (∀ q : Nat, q < H.size → ¬ A1 q → H1[q]? = H[q]?) → va_S A0 H0 H1 locs1 → W p l e R s m args below meth c H1 locs1 (cells + mc) (slots + ms) Q (F0 m (pc + 3) ls (.float r :: rest))) : W p l e R s m args below meth c H locs cells slots Q (F0 m pc ls st0) := by
  intro T hT X
  rcases hr T hT X with ⟨v, st₀, t, T', L, h0, X', hL, e1, e2, ⟨⟨r, u, hv, hp, hb⟩, hF⟩, st⟩ | ⟨q, st₀, t, T', L, E, ce, h0, X', hL, e1, e2, ⟨u, hp, hb, hF⟩, hce, hcv, hcl, st⟩
  · cases hv
    obtain ⟨k1, k2, k3⟩ := vx_keep h0 e1 hS hA hf hL hF
    obtain ⟨t2, a1, b1⟩ := kk r u t T'.heap (locs ++ L) e1.symm (by rw [← e2]; exact X'.warmed.alike) hp hb k1 k2 k3 T' rfl X'
    exact ⟨t2, st t2 a1, b1⟩
  · obtain ⟨k1, k2, k3⟩ := vx_keep h0 e1 hS hAX hf hL hF
    obtain ⟨t2, a1, b1⟩ := kx E ce q u t T'.heap (locs ++ L) e1.symm (by rw [← e2]; exact X'.warmed.alike) hp hb k1 k2 k3 (by rw [e1]; exact hce) hcv hcl T' rfl X'
    exact ⟨t2, st.trans a1, b1⟩
theorem vx_calld {S SX : Type} {post : UInt64 → S → Prop} {px : SX → Prop} {B : S → State → Prop} {BX : String → SX → State → Prop} {AX : Nat → Prop} (hr : vx_Run p l e R s m args below meth c H locs cells slots mc ms (F0 m pc ls st0) rest (va_Qd post B A1 a) (vx_X px BX AX) free) (hS : va_S A0 H0 H locs) (hA : ∀ q, q < H.size → A1 q → A0 q) (hf : ∀ q, free q → A0 q) (hAX : ∀ q, q < H.size → AX q → A0 q)
    (kx : ∀ (E : String) (ce : Cell) (q9 : Addr) (u : SX) (t : State) (H1 : Heap) (locs1 : List Loc), t.heap = H1 → s.vm.Alike t.vm → px u → BX E u t → H.size ≤ H1.size → (∀ q : Nat, q < H.size → ¬ AX q → H1[q]? = H[q]?) → va_S A0 H0 H1 locs1 → H1[q9]? = some ce → ce.vm = .none → s.vm.findClass E = some ce.cls → vx_W p l e R s m args below meth c H1 locs1 (cells + mc) (slots + ms) Q (F0 m pc ls rest) q9)
    (kk : ∀ (r : UInt64) (u : S) (t : State) (H1 : Heap) (locs1 : List Loc), t.heap = H1 → s.vm.Alike t.vm → post r u → B u t → H.size ≤ H1.size → (∀ q : Nat, q < H.size → ¬ A1 q → H1[q]? = H[q]?) → va_S A0 H0 H1 locs1 → W p l e R s m args below meth c H1 locs1 (cells + mc) (slots + ms) Q (F0 m (pc + 3) ls (.double r :: rest))) : W p l e R s m args below meth c H locs cells slots Q (F0 m pc ls st0) := by
  intro T hT X
  rcases hr T hT X with ⟨v, st₀, t, T', L, h0, X', hL, e1, e2, ⟨⟨r, u, hv, hp, hb⟩, hF⟩, st⟩ | ⟨q, st₀, t, T', L, E, ce, h0, X', hL, e1, e2, ⟨u, hp, hb, hF⟩, hce, hcv, hcl, st⟩
  · cases hv
    obtain ⟨k1, k2, k3⟩ := vx_keep h0 e1 hS hA hf hL hF
    obtain ⟨t2, a1, b1⟩ := kk r u t T'.heap (locs ++ L) e1.symm (by rw [← e2]; exact X'.warmed.alike) hp hb k1 k2 k3 T' rfl X'
    exact ⟨t2, st t2 a1, b1⟩
  · obtain ⟨k1, k2, k3⟩ := vx_keep h0 e1 hS hAX hf hL hF
    obtain ⟨t2, a1, b1⟩ := kx E ce q u t T'.heap (locs ++ L) e1.symm (by rw [← e2]; exact X'.warmed.alike) hp hb k1 k2 k3 (by rw [e1]; exact hce) hcv hcl T' rfl X'
    exact ⟨t2, st.trans a1, b1⟩
theorem vx_callv {S SX : Type} {post : S → Prop} {px : SX → Prop} {B : S → State → Prop} {BX : String → SX → State → Prop} {AX : Nat → Prop} (hr : vx_Run p l e R s m args below meth c H locs cells slots mc ms (F0 m pc ls st0) rest (va_Qv post B A1 a) (vx_X px BX AX) free) (hS : va_S A0 H0 H locs) (hA : ∀ q, q < H.size → A1 q → A0 q) (hf : ∀ q, free q → A0 q) (hAX : ∀ q, q < H.size → AX q → A0 q)
    (kx : ∀ (E : String) (ce : Cell) (q9 : Addr) (u : SX) (t : State) (H1 : Heap) (locs1 : List Loc), t.heap = H1 → s.vm.Alike t.vm → px u → BX E u t → H.size ≤ H1.size → (∀ q : Nat, q < H.size → ¬ AX q → H1[q]? = H[q]?) → va_S A0 H0 H1 locs1 → H1[q9]? = some ce → ce.vm = .none → s.vm.findClass E = some ce.cls → vx_W p l e R s m args below meth c H1 locs1 (cells + mc) (slots + ms) Q (F0 m pc ls rest) q9)
    (kk : ∀ (u : S) (t : State) (H1 : Heap) (locs1 : List Loc), t.heap = H1 → s.vm.Alike t.vm → post u → B u t → H.size ≤ H1.size → (∀ q : Nat, q < H.size → ¬ A1 q → H1[q]? = H[q]?) → va_S A0 H0 H1 locs1 → W p l e R s m args below meth c H1 locs1 (cells + mc) (slots + ms) Q (F0 m (pc + 3) ls (rest))) : W p l e R s m args below meth c H locs cells slots Q (F0 m pc ls st0) := by
  intro T hT X
  rcases hr T hT X with ⟨v, st₀, t, T', L, h0, X', hL, e1, e2, ⟨⟨u, hv, hp, hb⟩, hF⟩, st⟩ | ⟨q, st₀, t, T', L, E, ce, h0, X', hL, e1, e2, ⟨u, hp, hb, hF⟩, hce, hcv, hcl, st⟩
  · cases hv
    obtain ⟨k1, k2, k3⟩ := vx_keep h0 e1 hS hA hf hL hF
    obtain ⟨t2, a1, b1⟩ := kk u t T'.heap (locs ++ L) e1.symm (by rw [← e2]; exact X'.warmed.alike) hp hb k1 k2 k3 T' rfl X'
    exact ⟨t2, st t2 a1, b1⟩
  · obtain ⟨k1, k2, k3⟩ := vx_keep h0 e1 hS hAX hf hL hF
    obtain ⟨t2, a1, b1⟩ := kx E ce q u t T'.heap (locs ++ L) e1.symm (by rw [← e2]; exact X'.warmed.alike) hp hb k1 k2 k3 (by rw [e1]; exact hce) hcv hcl T' rfl X'
    exact ⟨t2, st.trans a1, b1⟩
/-- caught by the row x of this method's table; the rows ahead don't take it -/
theorem vx_catch {own name : String} {E : String} {ce : Cell} {q : Addr} (hown : s.vm.findClass own = some m.cls) (pre : List ExceptionTableEntry) (x : ExceptionTableEntry) (suf : List ExceptionTableEntry) (hsplit : c.exceptionTable.toList = pre ++ x :: suf)
    (hpass : ∀ z ∈ pre, covers z pc = false ∨ (z.catchType ≠ 0 ∧ ∃ nm : String, (Cond.classLink own z.catchType nm).before args s = true ∧ va_Nc E nm s)) (hx : covers x pc = true) (h0 : x.catchType ≠ 0)
    (hlink : (Cond.classLink own x.catchType name).before args s = true) (hcast : (Cond.castable E name).before args s = true) (hcell : H[q]? = some ce) (hv : ce.vm = .none) (hcl : s.vm.findClass E = some ce.cls)
    (kk : W p l e R s m args below meth c H locs cells slots Q (F0 m x.handlerPc ls [.ref q])) : vx_W p l e R s m args below meth c H locs cells slots Q (F0 m pc ls rest) q := by
  intro T hT X
  have hpl : e.platform.magicAccessors = ({} : Platform).magicAccessors := by rw [X.admits.platform]
  obtain ⟨c3, c4, hc3, hc4, hasg⟩ := Cond.castable_spec hcast
  cases Option.some.inj (hc3.symm.trans hcl)
  obtain ⟨c5, hc5, hcl5⟩ := Cond.classLink_spec hown hlink e.platform hpl
  cases Option.some.inj (hc4.symm.trans hc5)
  obtain ⟨vm', X', st⟩ := X.thenCaughtThrough q (g := F0 m pc ls rest) rfl (Steps.refl _) (by rw [hT]; exact hcell) (by rw [hv]; rfl) (by obtain ⟨k9, h9, -⟩ := Vm.findClass_spec hcl; exact ⟨k9, h9⟩) pre x suf hsplit
    (fun z hz => by
      rcases hpass z hz with h | ⟨hz0, nm, hl1, hn1⟩
      · exact Or.inl h
      · obtain ⟨c6, hc6, hcl6⟩ := Cond.classLink_spec hown hl1 e.platform hpl
        obtain ⟨a8, b8, h1, h2, h3⟩ := hn1
        cases Option.some.inj (h1.symm.trans hcl)
        cases Option.some.inj (h2.symm.trans hc6)
        exact Or.inr ⟨hz0, _, hcl6, h3⟩) hx (Or.inr ⟨h0, c4, hcl5, hasg⟩)
  obtain ⟨t, a1, b1⟩ := kk (T.setVm vm') hT X'
  exact ⟨t, st.trans a1, b1⟩
end Rows
section Ends
variable {p : Program} {l : Launch} {e : Env} {R : Room} {s : State} {m : MethodId} {args : Array Value} {below : List Frame} {meth : Method} {c : Code} {H : Heap} {locs : List Loc} {cells slots : Nat} {Q : State → Prop}
variable {mc ms : Nat} {free : Addr → Prop} {A0 A1 : Nat → Prop} {H0 : Heap} {a : Array Value} {ls : Array Slot} {st0 rest : List Value}
variable {Qc : Array Value → State → Outcome → State → Prop} {XC : String → State → State → Prop}
/-- what a body that may throw owes at its end -/
def vx_MQ (below : List Frame) (Qc : Array Value → State → Outcome → State → Prop) (XC : String → State → State → Prop) (a : Array Value) (s : State) (mc ms : Nat) (free : Addr → Prop) : State → Prop := fun t =>
  ∃ o, t.status = .running ∧ Ended t below o ∧ vx_Q Qc XC mc ms free a s o t
theorem vx_ret {g : JFrame} {mc ms : Nat} (k : W p l e R s m args below meth c H locs cells slots (MQ below Qc args s mc ms free) g) : W p l e R s m args below meth c H locs cells slots (vx_MQ below Qc XC args s mc ms free) g := by
  intro T hT X
  obtain ⟨t, a1, o, b1, b2, b3, b4⟩ := k T hT X
  exact ⟨t, a1, o, b1, b2, Or.inl ⟨b3, b4⟩⟩
/-- not caught here: it goes on to the caller -/
theorem vx_widen {g : JFrame} {q : Addr} {k n : Nat} (h1 : cells ≤ k) (h2 : slots ≤ n) (kk : vx_W p l e R s m args below meth c H locs k n Q g q) : vx_W p l e R s m args below meth c H locs cells slots Q g q := fun T hT X => kk T hT (stand_widen X h1 h2)
theorem vx_out {pc : Nat} {E : String} {ce : Cell} {q : Addr} {mc ms : Nat} (hout : ∀ x ∈ c.exceptionTable.toList, covers x pc = false) (hlocks : meth.locks = false) (hcell : H[q]? = some ce) (hv : ce.vm = .none) (hcl : s.vm.findClass E = some ce.cls)
    (hx : ∀ t : State, t.heap = H → s.vm.Alike t.vm → XC E s t) (hf : ∀ z ∈ locs, free z.base) (hc : cells ≤ mc) (hs : slots ≤ ms) :
    vx_W p l e R s m args below meth c H locs cells slots (vx_MQ below Qc XC args s mc ms free) (F0 m pc ls rest) q := by
  intro T hT X
  obtain ⟨st1, hrun, hend, hW, hsm⟩ := X.leaveThrown q (g := F0 m pc ls rest) rfl rfl rfl hout hlocks
  have hcell9 : (T.setFrames (.throwing q :: below)).heap[q]? = some ce := by
    show T.heap[q]? = some ce
    rw [hT]; exact hcell
  exact ⟨_, st1, .threw q, hrun, hend, Or.inr ⟨q, rfl, E, ce, locs, hx _ hT hW.alike, hcell9, hv, hcl, hW, hsm.mono hc hs, hf⟩⟩
theorem vx_frame {U : State} {k n : Nat} (h : s.sameButNew ({ U with vm := s.vm } : State) locs k n) : s.heap.size ≤ U.heap.size ∧ ∀ q : Nat, q < s.heap.size → (∀ z ∈ locs, z.base ≠ q) → U.heap[q]? = s.heap[q]? := by
  obtain ⟨-, h2, -, -, -, h6⟩ := h
  refine ⟨h2, fun q hq hz => ?_⟩
  obtain ⟨c9, e1, e2, e3, e4⟩ := h6 q _ (Array.getElem?_eq_getElem hq)
  have hs : c9.slots = (s.heap[q]).slots := Array.ext_getElem? fun i => e4 i fun hm => hz _ hm rfl
  have h9 : c9 = s.heap[q] := by
    rw [hs] at e2
    exact e2
  have e5 : U.heap[q]? = some c9 := e1
  rw [e5, h9, Array.getElem?_eq_getElem hq]
/-- the words of a throw but the four that speak of the heap -/
def vx_no (w : Cond) : Bool := decide (w ≠ .isRef (.static Bundle.tN "UNASSIGNED_STACK" Bundle.steD)) && decide (w ≠ .isRef (.static Bundle.tN "SUPPRESSED_SENTINEL" Bundle.listD)) && decide (w ≠ .laysStatic Bundle.tN "UNASSIGNED_STACK" Bundle.steD) && decide (w ≠ .laysStatic Bundle.tN "SUPPRESSED_SENTINEL" Bundle.listD)
def vx_at0 (own : String) (ic : Nat) (X : String) (names : List String) : List Cond := (Bundle.ownAtoms0 own ic X names).filter vx_no
def vx_atS (own : String) (ic : Nat) (X : String) (names : List String) : List Cond := (Bundle.ownAtoms own ic X names).filter vx_no
/-- a word that the tables alone decide, or a good one -/
def vx_ot (w : Cond) : Bool := w.onTables || goodWord w
theorem vx_ot_at {args a' : Array Value} {s U : State} {w : Cond} (hW : s.WarmedH U.vm) (hvm : s.vm = U.vm) (hg : vx_ot w = true) (h : w.before args s = true) : w.before a' U = true := by
  simp only [vx_ot, Bool.or_eq_true] at hg
  rcases hg with hg | hg
  · exact va_tabs hg hvm h
  · exact word_at hW (good_of_word hg) h
/-- a list's words: the good ones out of the method's own list, the others by premises of their own -/
theorem vx_hat {args : Array Value} {s : State} {L B : List Cond} (h1 : ∀ w ∈ L.filter goodWord, w.before args s = true) (h2 : ∀ w ∈ L.filter (fun w => !goodWord w), w ∈ B) (h3 : ∀ w ∈ B, w.before args s = true) : ∀ w ∈ L, w.before args s = true := by
  intro w hw
  by_cases g : goodWord w = true
  · exact h1 w (List.mem_filter.mpr ⟨hw, g⟩)
  · refine h3 w (h2 w (List.mem_filter.mpr ⟨hw, ?_⟩))
    show (!goodWord w) = true
    cases hgw : goodWord w
    · rfl
    · exact absurd hgw g
theorem vx_c {args : Array Value} {s : State} {w : Cond} {B : List Cond} (h : w.before args s = true) (t : ∀ w ∈ B, w.before args s = true) : ∀ w' ∈ w :: B, w'.before args s = true := fun w' h' => (List.mem_cons.mp h').elim (fun e => by rw [e]; exact h) (t w')
theorem vx_n {args : Array Value} {s : State} : ∀ w ∈ ([] : List Cond), w.before args s = true := fun _ h => nomatch h
theorem vx_own {args : Array Value} {s : State} {L : List Cond} (h1 : ∀ w ∈ L.filter vx_no, w.before args s = true)
    (hU : (Cond.isRef (.static Bundle.tN "UNASSIGNED_STACK" Bundle.steD)).before args s = true) (hN : (Cond.isRef (.static Bundle.tN "SUPPRESSED_SENTINEL" Bundle.listD)).before args s = true)
    (lU : (Cond.laysStatic Bundle.tN "UNASSIGNED_STACK" Bundle.steD).before args s = true) (lN : (Cond.laysStatic Bundle.tN "SUPPRESSED_SENTINEL" Bundle.listD).before args s = true) : ∀ w ∈ L, w.before args s = true := by
  intro w hw
  by_cases e1 : w = .isRef (.static Bundle.tN "UNASSIGNED_STACK" Bundle.steD)
  · rw [e1]; exact hU
  · by_cases e2 : w = .isRef (.static Bundle.tN "SUPPRESSED_SENTINEL" Bundle.listD)
    · rw [e2]; exact hN
    · by_cases e3 : w = .laysStatic Bundle.tN "UNASSIGNED_STACK" Bundle.steD
      · rw [e3]; exact lU
      · by_cases e4 : w = .laysStatic Bundle.tN "SUPPRESSED_SENTINEL" Bundle.listD
        · rw [e4]; exact lN
        · exact h1 w (List.mem_filter.mpr ⟨hw, by unfold vx_no; rw [decide_eq_true e1, decide_eq_true e2, decide_eq_true e3, decide_eq_true e4]; rfl⟩)
/-- where a static field lies, its class's statics cell in H -/
def vx_L (C n d : String) (A : Nat → Prop) (U : State) (H : Heap) : Prop := ∃ (c : ClassId) (k : Class) (i : Nat) (f : Field) (a : Nat) (cell : Cell), U.vm.findClass C = some c ∧ U.fieldFound? C n d = some (c, k, i, f) ∧ f.isStatic = true ∧ k.statics = some a ∧ H[a]? = some cell ∧ cell.vm.isStatics = true ∧ cell.cls = c ∧ f.slot < cell.slots.size ∧ k.staticTypes[f.slot]? = some f.type ∧ ¬ A a
theorem vx_L.moved {C n d : String} {A : Nat → Prop} {u U : State} {H : Heap} (hvm : u.vm.Alike U.vm) (h : vx_L C n d A u H) : vx_L C n d A U H := by
  obtain ⟨c, k, i, f, a, cell, h1, h2, h3, h4, h5, h6, h7, h8, h9, h10⟩ := h
  obtain ⟨k', hi', he⟩ := State.fieldFound?_setVm hvm h2
  exact ⟨c, k', i, f, a, cell, by rw [hvm.findClass]; exact h1, hi', h3, by rw [he]; exact h4, h5, h6, h7, h8, by rw [he]; exact h9, h10⟩
theorem vx_L.kept {C n d : String} {A : Nat → Prop} {U : State} {H H1 : Heap} (h : vx_L C n d A U H) (hq : ∀ a : Nat, a < H.size → ¬ A a → H1[a]? = H[a]?) : vx_L C n d A U H1 := by
  obtain ⟨c, k, i, f, a, cell, h1, h2, h3, h4, h5, h6, h7, h8, h9, h10⟩ := h
  exact ⟨c, k, i, f, a, cell, h1, h2, h3, h4, by rw [hq a (Array.getElem?_eq_some_iff.mp h5).1 h10]; exact h5, h6, h7, h8, h9, h10⟩
theorem vx_L.narrow {C n d : String} {A B : Nat → Prop} {U : State} {H : Heap} (h : vx_L C n d A U H) (hAB : ∀ q, B q → A q) : vx_L C n d B U H := by
  obtain ⟨c, k, i, f, a, cell, h1, h2, h3, h4, h5, h6, h7, h8, h9, h10⟩ := h
  exact ⟨c, k, i, f, a, cell, h1, h2, h3, h4, h5, h6, h7, h8, h9, fun z => h10 (hAB _ z)⟩
theorem vx_L.word {C n d : String} {A : Nat → Prop} {s : State} {args : Array Value} (h : vx_L C n d A s s.heap) : (Cond.laysStatic C n d).before args s = true := by
  obtain ⟨c, k, i, f, a, cell, h1, h2, h3, h4, h5, h6, h7, h8, h9, -⟩ := h
  show (Cond.laysStatic C n d).holds args s none s [] = true
  exact Cond.laysStatic_of h1 h2 h3 h4 h5 h6 h7 h8 h9
/-- .. and what it holds: null or some reference -/
def vx_Zq (C n d : String) (A : Nat → Prop) (U : State) (H : Heap) : Prop := va_Zq C n d A U H ∧ vx_L C n d A U H
theorem vx_Zq.moved {C n d : String} {A : Nat → Prop} {u U : State} {H : Heap} (hvm : u.vm.Alike U.vm) (h : vx_Zq C n d A u H) : vx_Zq C n d A U H := ⟨va_Zq.moved hvm h.1, vx_L.moved hvm h.2⟩
theorem vx_Zq.kept {C n d : String} {A : Nat → Prop} {U : State} {H H1 : Heap} (h : vx_Zq C n d A U H) (hq : ∀ a : Nat, a < H.size → ¬ A a → H1[a]? = H[a]?) : vx_Zq C n d A U H1 := ⟨va_Zq.kept h.1 hq, vx_L.kept h.2 hq⟩
theorem vx_Zq.narrow {C n d : String} {A B : Nat → Prop} {U : State} {H : Heap} (h : vx_Zq C n d A U H) (hAB : ∀ q, B q → A q) : vx_Zq C n d B U H := ⟨va_Zq.narrow h.1 hAB, vx_L.narrow h.2 hAB⟩
theorem vx_Zqof {args : Array Value} {s : State} {C n d : String} {A : Nat → Prop} (hl : (Cond.laysStatic C n d).before args s = true) (hini : (Cond.initialized C).before args s = true) (h : (Cond.isRef (.static C n d)).before args s = true) (hA : ∀ a : Nat, a < s.heap.size → ¬ A a) : vx_Zq C n d A s s.heap := by
  refine ⟨va_Zqof hl hini h hA, ?_⟩
  obtain ⟨c, k, i, f, a, cell, h1, h2, h3, h4, h5, h6, h7, h8, h9⟩ := Cond.laysStatic_spec hl
  exact ⟨c, k, i, f, a, cell, h1, h2, h3, h4, h5, h6, h7, h8, h9, hA a (Array.getElem?_eq_some_iff.mp h5).1⟩
theorem vx_isRef {C n d : String} {v : Value} {A : Nat → Prop} {s : State} {args : Array Value} (h : va_Z C n d v A s s.heap) (hv : v.isRef = true) : (Cond.isRef (.static C n d)).before args s = true := by
  obtain ⟨cf, kf, fi, f, a, cell, h1, h2, h3, h4, h5, h6, h7, -⟩ := h
  have he : (Term.static C n d).eval args s none [] s = some v := by
    simp [Term.eval, State.fieldNamed?, h1, h2, h4, h5, h6, h7]
  simp only [Cond.before, Cond.holds, Cond.value, he]
  cases v <;> simp_all [Value.isRef]
theorem vx_isRefq {C n d : String} {A : Nat → Prop} {s : State} {args : Array Value} (h : va_Zq C n d A s s.heap) : (Cond.isRef (.static C n d)).before args s = true := by
  rcases h with h | ⟨t, h⟩
  · exact vx_isRef h rfl
  · exact vx_isRef h rfl
/-- the same frame, seen from here: as if the method were called anew in this heap -/
theorem vx_rebase {T : State} (X : Stand p l e R s m args below meth c T locs cells slots) {R' : Room} (hf : R'.frames ≤ R.frames) (hl : R'.locals ≤ R.locals) (hc : cells + R'.cells ≤ R.cells) (hs : slots + R'.slots ≤ R.slots) :
    Stand p l e R' ((T.setVm s.vm).setFrames (.invoking m args :: below)) m args below meth c T [] 0 0 := by
  have htop : (T.setVm s.vm).topJava?.isSome := X.here.top
  have hF : ((T.setVm s.vm).setFrames (.invoking m args :: below)).frames = .invoking m args :: below := State.frames_setFrames _ (State.cur_lt_of_top htop)
  obtain ⟨g₀, hg0⟩ := Option.isSome_iff_exists.mp htop
  obtain ⟨r, hr⟩ := State.topJava?_eq_some.mp hg0
  have hl9 : e.platform.stackLimits (T.setVm s.vm).me = e.platform.stackLimits s.me := X.limits
  have hb9 : (T.setVm s.vm).me.stackBytes = s.me.stackBytes := X.bytes
  refine ⟨X.admits, X.cas, X.clock, hF, ?_, X.hears, X.method, X.code, X.here, X.tail, X.warmed, ?_, ?_, ?_⟩
  · have h := X.room
    have hU : ((T.setVm s.vm).setFrames (.invoking m args :: below)).localsInUse = s.localsInUse := by
      rw [State.localsInUse_invoking hF (meth := meth) (c := c) X.method X.code, State.localsInUse_invoking X.frames X.method X.code]
    simp only [State.hasRoom, Bool.and_eq_true, decide_eq_true_eq] at h ⊢
    obtain ⟨⟨⟨⟨h1, h2, h3, h4, h5, h6⟩, h7⟩, h8⟩, h9⟩ := h
    rw [X.frames, List.length_cons] at h2 h3
    have q1 := X.heapSize
    have q2 := X.used
    simp only [hF, hU, List.length_cons, State.stackLimits_setFrames, State.stackBytes_setFrames, hl9, hb9]
    refine ⟨⟨⟨⟨by omega, by omega, by omega, by omega, by omega, h6⟩, ?_⟩, ?_⟩, X.book⟩
    · show T.heap.size + R'.cells ≤ e.platform.maxCells
      omega
    · show T.slotsUsed + R'.slots ≤ e.platform.maxSlots
      omega
  · rw [State.stackLimits_setFrames]; rfl
  · rw [State.stackBytes_setFrames]; rfl
  · refine ⟨?_, Nat.le_refl _, Nat.le_refl _, ?_, ?_, fun a c9 h9 => ⟨c9, h9, rfl, rfl, fun _ _ => rfl⟩⟩
    · obtain ⟨t, ht, -⟩ := State.frames_cons hr
      show T.setVm s.vm = { ((T.setVm s.vm).setFrames (.invoking m args :: below)).setFrames (T.setVm s.vm).frames with heap := T.heap, slotsUsed := T.slotsUsed }
      rw [State.setFrames_setFrames, State.setFrames_self ht]
      rfl
    · show T.slotsUsed = T.slotsUsed + ((T.heap.toList.drop T.heap.size).map (·.slots.size)).sum
      rw [List.drop_eq_nil_of_le (Nat.le_of_eq Array.length_toList)]
      rfl
    · show ((T.heap.toList.drop T.heap.size).map (·.slots.size)).sum ≤ 0
      rw [List.drop_eq_nil_of_le (Nat.le_of_eq Array.length_toList)]
      exact Nat.le_refl _
/-- 'throw new E()': new; dup; invokespecial; athrow -/
theorem vx_throw0 {cc : ByteArray} {pc : Nat} (hexec : p.tables.exec = Jvm.exec) (hb : c.code = cc) (hl : l.stackTraces = false) {own cls : String} {names : List String} {ik ic mc ms : Nat} {A : Nat → Prop}
    (hown : s.vm.findClass own = some m.cls) (hcls : Bundle.fit cls = true) (hnames : ∀ n ∈ names, Bundle.fit n = true)
    (hk : (Cond.classLink own ik cls).before args s = true) (hini : (Cond.initialized cls).before args s = true) (hat : ∀ w ∈ vx_at0 own ic cls names, w.before args s = true)
    (hgood : ∀ w ∈ Cond.classLink own ik cls :: Cond.initialized cls :: vx_at0 own ic cls names, vx_ot w = true)
    (hU : vx_Zq Bundle.tN "UNASSIGNED_STACK" Bundle.steD A s s.heap) (hN : vx_Zq Bundle.tN "SUPPRESSED_SENTINEL" Bundle.listD A s s.heap) (hS : va_S A s.heap H locs) (hsize : ls.size = c.maxLocals)
    (d0 : decode cc pc = .ok (.new ik, 3)) (d3 : decode cc (pc + 3) = .ok (.dup, 1)) (d4 : decode cc (pc + 4) = .ok (.invokespecial ic, 3)) (d7 : decode cc (pc + 7) = .ok (.athrow, 1))
    (hout : ∀ x ∈ c.exceptionTable.toList, covers x (pc + 7) = false)
    (hRframes : names.length + 3 < R.frames) (hRlocals : (rest.map fun v => v.category).sum + (13 * (names.length + 1) + 42) ≤ R.locals) (hRcells : cells + 1 ≤ R.cells) (hRslots : slots + 6 ≤ R.slots) (hlocks : meth.locks = false)
    (hx : ∀ t : State, s.vm.Alike t.vm → H.size ≤ t.heap.size → (∀ q : Nat, q < H.size → t.heap[q]? = H[q]?) → XC cls s t)
    (hf : ∀ z ∈ locs, free z.base) (hc : cells + 1 ≤ mc) (hs : slots + 6 ≤ ms) :
    W p l e R s m args below meth c H locs cells slots (vx_MQ below Qc XC args s mc ms free) (F0 m pc ls rest) := by
  intro T hT X
  have htr : e.platform.stackTraces = false := (show e.platform.stackTraces = l.stackTraces by rw [X.admits.platform]).trans hl
  have Y := vx_rebase X (R' := { frames := R.frames, locals := R.locals, cells := 1, slots := 6 }) (Nat.le_refl _) (Nat.le_refl _) hRcells hRslots
  obtain ⟨s', hA⟩ : ∃ z, z = (T.setVm s.vm).setFrames (.invoking m args :: below) := ⟨_, rfl⟩
  rw [← hA] at Y
  have hvm : s'.vm = s.vm := by rw [hA]; rfl
  have hhp : s'.heap = H := by rw [hA]; exact hT
  have hW0 : s.WarmedH s'.vm := by rw [hvm]; exact State.WarmedH.refl s
  have hat' : ∀ w ∈ vx_at0 own ic cls names, w.before args s' = true := fun w hw => vx_ot_at hW0 hvm.symm (hgood w (List.mem_cons_of_mem _ (List.mem_cons_of_mem _ hw))) (hat w hw)
  have hk' : (Cond.classLink own ik cls).before args s' = true := vx_ot_at hW0 hvm.symm (hgood _ List.mem_cons_self) hk
  have hini' : (Cond.initialized cls).before args s' = true := vx_ot_at hW0 hvm.symm (hgood _ (List.mem_cons_of_mem _ List.mem_cons_self)) hini
  have hU' : vx_Zq Bundle.tN "UNASSIGNED_STACK" Bundle.steD A s' s'.heap := by rw [hhp]; exact vx_Zq.moved hW0.alike (hU.kept hS.2.1)
  have hN' : vx_Zq Bundle.tN "SUPPRESSED_SENTINEL" Bundle.listD A s' s'.heap := by rw [hhp]; exact vx_Zq.moved hW0.alike (hN.kept hS.2.1)
  have h : ∀ w ∈ Bundle.ownAtoms0 own ic cls names, w.before args s' = true := vx_own hat' (vx_isRefq hU'.1) (vx_isRefq hN'.1) hU'.2.word hN'.2.word
  have hown' : s'.vm.findClass own = some m.cls := by rw [hvm]; exact hown
  have hins : (Cond.instantiable cls 6).before args s' = true := h _ (by simp [Bundle.ownAtoms0])
  obtain ⟨vm₁, cX, kX, hfX, hkX, -, -, X₁, st1⟩ := Y.newCold hexec (own := own) (C := cls) (index := ik) (n := 6) hown' hk' hins hini'
    (g := F0 m pc ls rest) rfl (by rw [hb]; exact d0) (Nat.le_refl _) (Nat.le_refl _)
  generalize hT1 : (T.setVm vm₁).pushCell { cls := cX, slots := kX.instanceTypes.map defaultValue, vm := .none } = T1 at X₁ st1
  have hcat : (Value.ref T.heap.size).category = 1 := rfl
  have hcellA : T1.heap[T.heap.size]? = some (freshCell cX kX) := by rw [← hT1]; exact State.heap_pushCell_size _ _
  have d3' : decode c.code (pc + 3) = .ok (.dup, 1) := by rw [hb]; exact d3
  obtain ⟨U, hsteps, hrun, hend, hW, hsame, ce, hce, hO⟩ := X₁.ctorThrow0 hexec htr (own := own) (cls := cls) (names := names) (ic := ic) hown' hcls hnames h (fun x hx => nomatch hx) hfX hkX hcellA (by rw [hhp, hT]; exact Nat.le_refl _)
    (g := { method := m, pc := pc + 4, locals := ls, stack := .ref T.heap.size :: .ref T.heap.size :: rest, locked := none }) rfl hsize rfl rfl (rest := rest) rfl
    (by rw [hb]; exact d4) (by rw [hb]; exact d7) hout hRframes (by simp only [List.map_cons, List.sum_cons, hcat]; omega) hlocks
  obtain ⟨f1, f2⟩ := vx_frame hsame
  rw [hhp] at f1 f2
  have hWs : s.WarmedH U.vm := State.WarmedH.trans hW0 hW
  have hcl : s.vm.findClass cls = some ce.cls := by
    have h9 := hO.cls
    rw [hvm] at h9
    exact h9
  have hall : s.sameButNew ({ U with vm := s.vm } : State) locs mc ms := by
    subst hA
    obtain ⟨e1, e2⟩ := hsame
    rw [State.setFrames_setFrames] at e1
    have h2 : (T.setVm s.vm).sameButNew ({ U with vm := s.vm } : State) [] (0 + 1) (0 + 6) := ⟨e1, e2⟩
    have h3 := X.same.trans h2
    rw [List.append_nil] at h3
    exact h3.mono hc hs
  refine ⟨U, ?_, .threw T.heap.size, hrun, hend, Or.inr ⟨T.heap.size, rfl, cls, ce, locs, hx U hWs.alike f1 (fun q hq => f2 q hq (fun z hz => nomatch hz)), hce, hO.vm, hcl, hWs, hall, hf⟩⟩
  refine st1 _ ?_
  show Steps p.tables e below (T1.setTop { method := m, pc := pc + 3, locals := ls, stack := .ref T.heap.size :: rest, locked := none }) _
  jvm_step X₁.here [X₁.here.top, hexec, d3', Value.category]
  exact hsteps
/-- 'throw new E("text")': new; dup; ldc; invokespecial; athrow -/
theorem vx_throwS {cc : ByteArray} {pc : Nat} (hexec : p.tables.exec = Jvm.exec) (hb : c.code = cc) (hl : l.stackTraces = false) {own cls text : String} {names : List String} {ik is ic mc ms sa : Nat} {A : Nat → Prop}
    (hown : s.vm.findClass own = some m.cls) (hcls : Bundle.fit cls = true) (hnames : ∀ n ∈ names, Bundle.fit n = true)
    (hk : (Cond.classLink own ik cls).before args s = true) (hini : (Cond.initialized cls).before args s = true) (hstr : vk_R own is text sa s) (hat : ∀ w ∈ vx_atS own ic cls names, w.before args s = true)
    (hgood : ∀ w ∈ Cond.classLink own ik cls :: Cond.initialized cls :: vx_atS own ic cls names, vx_ot w = true)
    (hU : vx_Zq Bundle.tN "UNASSIGNED_STACK" Bundle.steD A s s.heap) (hN : vx_Zq Bundle.tN "SUPPRESSED_SENTINEL" Bundle.listD A s s.heap) (hS : va_S A s.heap H locs) (hsize : ls.size = c.maxLocals)
    (d0 : decode cc pc = .ok (.new ik, 3)) (d3 : decode cc (pc + 3) = .ok (.dup, 1)) (d4 : decode cc (pc + 4) = .ok (.ldc is, 2)) (d6 : decode cc (pc + 6) = .ok (.invokespecial ic, 3)) (d9 : decode cc (pc + 9) = .ok (.athrow, 1))
    (hout : ∀ x ∈ c.exceptionTable.toList, covers x (pc + 9) = false)
    (hRframes : names.length + 3 < R.frames) (hRlocals : (rest.map fun v => v.category).sum + (13 * (names.length + 1) + 43) ≤ R.locals) (hRcells : cells + 1 ≤ R.cells) (hRslots : slots + 6 ≤ R.slots) (hlocks : meth.locks = false)
    (hx : ∀ t : State, s.vm.Alike t.vm → H.size ≤ t.heap.size → (∀ q : Nat, q < H.size → t.heap[q]? = H[q]?) → XC cls s t)
    (hf : ∀ z ∈ locs, free z.base) (hc : cells + 1 ≤ mc) (hs : slots + 6 ≤ ms) :
    W p l e R s m args below meth c H locs cells slots (vx_MQ below Qc XC args s mc ms free) (F0 m pc ls rest) := by
  intro T hT X
  have htr : e.platform.stackTraces = false := (show e.platform.stackTraces = l.stackTraces by rw [X.admits.platform]).trans hl
  have Y := vx_rebase X (R' := { frames := R.frames, locals := R.locals, cells := 1, slots := 6 }) (Nat.le_refl _) (Nat.le_refl _) hRcells hRslots
  obtain ⟨s', hA⟩ : ∃ z, z = (T.setVm s.vm).setFrames (.invoking m args :: below) := ⟨_, rfl⟩
  rw [← hA] at Y
  have hvm : s'.vm = s.vm := by rw [hA]; rfl
  have hhp : s'.heap = H := by rw [hA]; exact hT
  have hW0 : s.WarmedH s'.vm := by rw [hvm]; exact State.WarmedH.refl s
  have hat' : ∀ w ∈ vx_atS own ic cls names, w.before args s' = true := fun w hw => vx_ot_at hW0 hvm.symm (hgood w (List.mem_cons_of_mem _ (List.mem_cons_of_mem _ hw))) (hat w hw)
  have hk' : (Cond.classLink own ik cls).before args s' = true := vx_ot_at hW0 hvm.symm (hgood _ List.mem_cons_self) hk
  have hini' : (Cond.initialized cls).before args s' = true := vx_ot_at hW0 hvm.symm (hgood _ (List.mem_cons_of_mem _ List.mem_cons_self)) hini
  have hU' : vx_Zq Bundle.tN "UNASSIGNED_STACK" Bundle.steD A s' s'.heap := by rw [hhp]; exact vx_Zq.moved hW0.alike (hU.kept hS.2.1)
  have hN' : vx_Zq Bundle.tN "SUPPRESSED_SENTINEL" Bundle.listD A s' s'.heap := by rw [hhp]; exact vx_Zq.moved hW0.alike (hN.kept hS.2.1)
  have h : ∀ w ∈ Bundle.ownAtoms own ic cls names, w.before args s' = true := vx_own hat' (vx_isRefq hU'.1) (vx_isRefq hN'.1) hU'.2.word hN'.2.word
  have hown' : s'.vm.findClass own = some m.cls := by rw [hvm]; exact hown
  have hins : (Cond.instantiable cls 6).before args s' = true := h _ (by simp [Bundle.ownAtoms])
  obtain ⟨vm₁, cX, kX, hfX, hkX, -, -, X₁, st1⟩ := Y.newCold hexec (own := own) (C := cls) (index := ik) (n := 6) hown' hk' hins hini'
    (g := F0 m pc ls rest) rfl (by rw [hb]; exact d0) (Nat.le_refl _) (Nat.le_refl _)
  generalize hT1 : (T.setVm vm₁).pushCell { cls := cX, slots := kX.instanceTypes.map defaultValue, vm := .none } = T1 at X₁ st1
  have hcat : (Value.ref T.heap.size).category = 1 := rfl
  have hcellA : T1.heap[T.heap.size]? = some (freshCell cX kX) := by rw [← hT1]; exact State.heap_pushCell_size _ _
  have d3' : decode c.code (pc + 3) = .ok (.dup, 1) := by rw [hb]; exact d3
  have d4' : decode c.code (pc + 4) = .ok (.ldc is, 2) := by rw [hb]; exact d4
  have hstr' : vk_R own is text sa s' := vk_R.warm hW0 hstr
  obtain ⟨U, hsteps, hrun, hend, hW, hsame, ce, hce, hO⟩ := X₁.ctorThrowS hexec htr (own := own) (cls := cls) (names := names) (ic := ic) hown' hcls hnames h (fun x hx => nomatch hx) hfX hkX hcellA (by rw [hhp, hT]; exact Nat.le_refl _) (msg := .ref sa) rfl
    (g := { method := m, pc := pc + 6, locals := ls, stack := .ref sa :: .ref T.heap.size :: .ref T.heap.size :: rest, locked := none }) rfl hsize rfl rfl (rest := rest) rfl
    (by rw [hb]; exact d6) (by rw [hb]; exact d9) hout hRframes (by simp only [List.map_cons, List.sum_cons, hcat]; omega) hlocks
  obtain ⟨f1, f2⟩ := vx_frame hsame
  rw [hhp] at f1 f2
  have hWs : s.WarmedH U.vm := State.WarmedH.trans hW0 hW
  have hcl : s.vm.findClass cls = some ce.cls := by
    have h9 := hO.cls
    rw [hvm] at h9
    exact h9
  have hall : s.sameButNew ({ U with vm := s.vm } : State) locs mc ms := by
    subst hA
    obtain ⟨e1, e2⟩ := hsame
    rw [State.setFrames_setFrames] at e1
    have h2 : (T.setVm s.vm).sameButNew ({ U with vm := s.vm } : State) [] (0 + 1) (0 + 6) := ⟨e1, e2⟩
    have h3 := X.same.trans h2
    rw [List.append_nil] at h3
    exact h3.mono hc hs
  refine ⟨U, ?_, .threw T.heap.size, hrun, hend, Or.inr ⟨T.heap.size, rfl, cls, ce, locs, hx U hWs.alike f1 (fun q hq => f2 q hq (fun z hz => nomatch hz)), hce, hO.vm, hcl, hWs, hall, hf⟩⟩
  refine st1 _ ?_
  show Steps p.tables e below (T1.setTop { method := m, pc := pc + 3, locals := ls, stack := .ref T.heap.size :: rest, locked := none }) _
  jvm_step X₁.here [X₁.here.top, hexec, d3', Value.category]
  exact X₁.ldcString hexec (own := own) (text := text) (index := is) (a := sa) hown' hstr'.1 hstr'.2
    (g := { method := m, pc := pc + 4, locals := ls, stack := .ref T.heap.size :: .ref T.heap.size :: rest, locked := none }) rfl d4' _ hsteps
/-- 'throw new E("text")', the text by a wide index -/
theorem vx_throwSW {cc : ByteArray} {pc : Nat} (hexec : p.tables.exec = Jvm.exec) (hb : c.code = cc) (hl : l.stackTraces = false) {own cls text : String} {names : List String} {ik is ic mc ms sa : Nat} {A : Nat → Prop}
    (hown : s.vm.findClass own = some m.cls) (hcls : Bundle.fit cls = true) (hnames : ∀ n ∈ names, Bundle.fit n = true)
    (hk : (Cond.classLink own ik cls).before args s = true) (hini : (Cond.initialized cls).before args s = true) (hstr : vk_R own is text sa s) (hat : ∀ w ∈ vx_atS own ic cls names, w.before args s = true)
    (hgood : ∀ w ∈ Cond.classLink own ik cls :: Cond.initialized cls :: vx_atS own ic cls names, vx_ot w = true)
    (hU : vx_Zq Bundle.tN "UNASSIGNED_STACK" Bundle.steD A s s.heap) (hN : vx_Zq Bundle.tN "SUPPRESSED_SENTINEL" Bundle.listD A s s.heap) (hS : va_S A s.heap H locs) (hsize : ls.size = c.maxLocals)
    (d0 : decode cc pc = .ok (.new ik, 3)) (d3 : decode cc (pc + 3) = .ok (.dup, 1)) (d4 : decode cc (pc + 4) = .ok (.ldc_w is, 3)) (d7 : decode cc (pc + 7) = .ok (.invokespecial ic, 3)) (d10 : decode cc (pc + 10) = .ok (.athrow, 1))
    (hout : ∀ x ∈ c.exceptionTable.toList, covers x (pc + 10) = false)
    (hRframes : names.length + 3 < R.frames) (hRlocals : (rest.map fun v => v.category).sum + (13 * (names.length + 1) + 43) ≤ R.locals) (hRcells : cells + 1 ≤ R.cells) (hRslots : slots + 6 ≤ R.slots) (hlocks : meth.locks = false)
    (hx : ∀ t : State, s.vm.Alike t.vm → H.size ≤ t.heap.size → (∀ q : Nat, q < H.size → t.heap[q]? = H[q]?) → XC cls s t)
    (hf : ∀ z ∈ locs, free z.base) (hc : cells + 1 ≤ mc) (hs : slots + 6 ≤ ms) :
    W p l e R s m args below meth c H locs cells slots (vx_MQ below Qc XC args s mc ms free) (F0 m pc ls rest) := by
  intro T hT X
  have htr : e.platform.stackTraces = false := (show e.platform.stackTraces = l.stackTraces by rw [X.admits.platform]).trans hl
  have Y := vx_rebase X (R' := { frames := R.frames, locals := R.locals, cells := 1, slots := 6 }) (Nat.le_refl _) (Nat.le_refl _) hRcells hRslots
  obtain ⟨s', hA⟩ : ∃ z, z = (T.setVm s.vm).setFrames (.invoking m args :: below) := ⟨_, rfl⟩
  rw [← hA] at Y
  have hvm : s'.vm = s.vm := by rw [hA]; rfl
  have hhp : s'.heap = H := by rw [hA]; exact hT
  have hW0 : s.WarmedH s'.vm := by rw [hvm]; exact State.WarmedH.refl s
  have hat' : ∀ w ∈ vx_atS own ic cls names, w.before args s' = true := fun w hw => vx_ot_at hW0 hvm.symm (hgood w (List.mem_cons_of_mem _ (List.mem_cons_of_mem _ hw))) (hat w hw)
  have hk' : (Cond.classLink own ik cls).before args s' = true := vx_ot_at hW0 hvm.symm (hgood _ List.mem_cons_self) hk
  have hini' : (Cond.initialized cls).before args s' = true := vx_ot_at hW0 hvm.symm (hgood _ (List.mem_cons_of_mem _ List.mem_cons_self)) hini
  have hU' : vx_Zq Bundle.tN "UNASSIGNED_STACK" Bundle.steD A s' s'.heap := by rw [hhp]; exact vx_Zq.moved hW0.alike (hU.kept hS.2.1)
  have hN' : vx_Zq Bundle.tN "SUPPRESSED_SENTINEL" Bundle.listD A s' s'.heap := by rw [hhp]; exact vx_Zq.moved hW0.alike (hN.kept hS.2.1)
  have h : ∀ w ∈ Bundle.ownAtoms own ic cls names, w.before args s' = true := vx_own hat' (vx_isRefq hU'.1) (vx_isRefq hN'.1) hU'.2.word hN'.2.word
  have hown' : s'.vm.findClass own = some m.cls := by rw [hvm]; exact hown
  have hins : (Cond.instantiable cls 6).before args s' = true := h _ (by simp [Bundle.ownAtoms])
  obtain ⟨vm₁, cX, kX, hfX, hkX, -, -, X₁, st1⟩ := Y.newCold hexec (own := own) (C := cls) (index := ik) (n := 6) hown' hk' hins hini'
    (g := F0 m pc ls rest) rfl (by rw [hb]; exact d0) (Nat.le_refl _) (Nat.le_refl _)
  generalize hT1 : (T.setVm vm₁).pushCell { cls := cX, slots := kX.instanceTypes.map defaultValue, vm := .none } = T1 at X₁ st1
  have hcat : (Value.ref T.heap.size).category = 1 := rfl
  have hcellA : T1.heap[T.heap.size]? = some (freshCell cX kX) := by rw [← hT1]; exact State.heap_pushCell_size _ _
  have d3' : decode c.code (pc + 3) = .ok (.dup, 1) := by rw [hb]; exact d3
  have d4' : decode c.code (pc + 4) = .ok (.ldc_w is, 3) := by rw [hb]; exact d4
  have hstr' : vk_R own is text sa s' := vk_R.warm hW0 hstr
  obtain ⟨U, hsteps, hrun, hend, hW, hsame, ce, hce, hO⟩ := X₁.ctorThrowS hexec htr (own := own) (cls := cls) (names := names) (ic := ic) hown' hcls hnames h (fun x hx => nomatch hx) hfX hkX hcellA (by rw [hhp, hT]; exact Nat.le_refl _) (msg := .ref sa) rfl
    (g := { method := m, pc := pc + 7, locals := ls, stack := .ref sa :: .ref T.heap.size :: .ref T.heap.size :: rest, locked := none }) rfl hsize rfl rfl (rest := rest) rfl
    (by rw [hb]; exact d7) (by rw [hb]; exact d10) hout hRframes (by simp only [List.map_cons, List.sum_cons, hcat]; omega) hlocks
  obtain ⟨f1, f2⟩ := vx_frame hsame
  rw [hhp] at f1 f2
  have hWs : s.WarmedH U.vm := State.WarmedH.trans hW0 hW
  have hcl : s.vm.findClass cls = some ce.cls := by
    have h9 := hO.cls
    rw [hvm] at h9
    exact h9
  have hall : s.sameButNew ({ U with vm := s.vm } : State) locs mc ms := by
    subst hA
    obtain ⟨e1, e2⟩ := hsame
    rw [State.setFrames_setFrames] at e1
    have h2 : (T.setVm s.vm).sameButNew ({ U with vm := s.vm } : State) [] (0 + 1) (0 + 6) := ⟨e1, e2⟩
    have h3 := X.same.trans h2
    rw [List.append_nil] at h3
    exact h3.mono hc hs
  refine ⟨U, ?_, .threw T.heap.size, hrun, hend, Or.inr ⟨T.heap.size, rfl, cls, ce, locs, hx U hWs.alike f1 (fun q hq => f2 q hq (fun z hz => nomatch hz)), hce, hO.vm, hcl, hWs, hall, hf⟩⟩
  refine st1 _ ?_
  show Steps p.tables e below (T1.setTop { method := m, pc := pc + 3, locals := ls, stack := .ref T.heap.size :: rest, locked := none }) _
  jvm_step X₁.here [X₁.here.top, hexec, d3', Value.category]
  exact X₁.ldcStringW hexec (own := own) (text := text) (index := is) (a := sa) hown' hstr'.1 hstr'.2
    (g := { method := m, pc := pc + 4, locals := ls, stack := .ref T.heap.size :: .ref T.heap.size :: rest, locked := none }) rfl d4' _ hsteps
end Ends
section Bodies
variable {l : Launch}
theorem vx_ofW {y : MethodName} {ws ws' : List Cond} {rm : Room} {Pc : Array Value → State → Prop} {Qc : Array Value → State → Outcome → State → Prop} {XC : String → State → State → Prop} {mc ms : Nat} {free : Addr → Prop} {cc : ByteArray} {maxL : Nat} {ret : Option FieldType}
    (hy : plainName y.cls = true) (hw : ws = Cond.code y cc maxL ret :: ws')
    (body : ∀ p e s m args below meth c s₁, BodyLoose p l y (headSpec ws rm) cc maxL ret e s m args below meth c s₁ → c.maxLocals = maxL → (∀ x ∈ c.exceptionTable.toList, False) → Pc args s →
      W p l e (headSpec ws rm).room s m args below meth c s.heap [] 0 0 (vx_MQ below Qc XC args s mc ms free) (entryFrame m args maxL)) : vx_Met l y ws rm Pc Qc XC mc ms free := by
  refine MetFree.of_bodyS (code := cc) (maxLocals := maxL) (ret := ret) hy ?_ ?_
  · intro args s m h hn
    obtain ⟨meth, c, h1, h2, h3, h4, h5, h6, -, -⟩ := Cond.code_spec hn (atoms_spec (ws := ws) h _ (by rw [hw]; exact List.mem_cons_self))
    exact ⟨meth, c, h1, h2, h3, h4, h5, h6⟩
  · intro p e s m args below meth c s₁ B hml hP _
    have hh0 : s₁.heap = s.heap := by rw [B.state]; rfl
    have ht : ∀ x ∈ c.exceptionTable.toList, False := by
      obtain ⟨meth9, c9, h1, h2, -, -, -, -, h7, -⟩ := Cond.code_spec B.named (atoms_spec (ws := ws) B.pre _ (by rw [hw]; exact List.mem_cons_self))
      cases Option.some.inj (h1.symm.trans B.method)
      cases Option.some.inj (h2.symm.trans (Stand.of_body B).code)
      intro x hx
      rw [Array.isEmpty_iff.mp h7] at hx
      cases hx
    obtain ⟨t, a1, o, b1, b2, b3⟩ := body p e s m args below meth c s₁ B hml ht hP s₁ hh0 (Stand.of_body B)
    exact ⟨t, o, a1, b1, b2, b3⟩
/-- the table of a body with handlers -/
theorem vx_table {p : Program} {x y : MethodName} {S : Spec} {cc bytes : ByteArray} {maxL maxL' : Nat} {ret ret' : Option FieldType} {e : Env} {s s₁ : State} {m : MethodId} {args : Array Value} {below : List Frame} {meth : Method} {c : Code} {hh : List (Nat × Nat × Nat × Nat)}
    (B : BodyLoose p l y S cc maxL ret e s m args below meth c s₁) (h : (Cond.codeWith y bytes maxL' ret' hh).before args s = true) : c.exceptionTable.toList = tableOf hh := by
  obtain ⟨m9, meth9, c9, hn9, h1, h2, -, -, h6, -⟩ := Cond.codeWith_spec h
  cases Option.some.inj (hn9.symm.trans B.named)
  cases Option.some.inj (h1.symm.trans B.method)
  cases Option.some.inj (h2.symm.trans (Stand.of_body B).code)
  rw [← h6, table_eq]
end Bodies
end VXA
/-! ===== END ===== -/
/-! ===== BEGIN a static call of a method with an exception table ===== -/
section VXS
variable {p : Program} {l : Launch} {e : Env} {R : Room} {s : State} {m : MethodId} {args : Array Value} {below : List Frame} {meth : Method} {c : Code} {T : State} {H : Heap} {locs : List Loc} {cells slots : Nat}
abbrev vx_CSW (R : Room) (s : State) (args : Array Value) (own : String) (index : Nat) (y : MethodName) (bytes : ByteArray) (maxL : Nat) (ret : Option FieldType) (hh : List (Nat × Nat × Nat × Nat)) (ws : List Cond) (rm : Room) (mc ms n : Nat) : Prop :=
  (rm.cells = mc ∧ rm.slots = ms ∧ rm.frames + 1 ≤ R.frames ∧ 8 + (maxL + 11) + rm.locals ≤ R.locals ∧ (∀ w ∈ ws, ∀ (a' : Array Value) (U : State), s.WarmedH U.vm → w.before a' U = true) ∧ Cond.codeWith y bytes maxL ret hh ∈ ws) ∧
  (Cond.codeWith y bytes maxL ret hh).before args s = true ∧ (Cond.initialized y.cls).before args s = true ∧ (y.cls ≠ "java/lang/invoke/MethodHandle" ∧ y.cls ≠ "java/lang/invoke/VarHandle") ∧
  (∀ sig, parseMethodDescriptor y.desc = some sig → n = sig.parameters.length) ∧ (Cond.methodLink own index y).before args s = true ∧ (Cond.static y).before args s = true
theorem vx_cwSW {own : String} {index maxL mc ms : Nat} {y : MethodName} {bytes : ByteArray} {ret : Option FieldType} {hh : List (Nat × Nat × Nat × Nat)} {Ts ws ws' : List Cond} {rm : Room} (n : Nat) (ht : ∀ w ∈ Ts, w.before args s = true) (hT : GoodIn Ts (va_wsS own index y ws)) (hw : ws = Cond.codeWith y bytes maxL ret hh :: ws') (hrc : rm.cells = mc) (hrs : rm.slots = ms)
    (hd : y.cls ≠ "java/lang/invoke/MethodHandle" ∧ y.cls ≠ "java/lang/invoke/VarHandle" ∧ (parseMethodDescriptor y.desc).map (fun d => d.parameters.length) = some n) (hR : rm.frames + 1 ≤ R.frames ∧ 8 + (maxL + 11) + rm.locals ≤ R.locals) :
    vx_CSW R s args own index y bytes maxL ret hh ws rm mc ms n := by
  have ok : ∀ w ∈ va_wsS own index y ws, w.before args s = true := fun w h => ht w (hT w h).1
  have hG : GoodIn Ts ws := fun w h => hT w (by unfold va_wsS; exact List.mem_append_right _ h)
  have hc : Cond.codeWith y bytes maxL ret hh ∈ ws := by rw [hw]; exact List.mem_cons_self
  refine ⟨⟨hrc, hrs, hR.1, hR.2, pay_in ht hG, hc⟩, ht _ (hG _ hc).1, ok _ (by simp [va_wsS]), ⟨hd.1, hd.2.1⟩, fun sig h => ?_, ok _ (by simp [va_wsS]), ok _ (by simp [va_wsS])⟩
  have h2 := hd.2.2
  rw [h] at h2
  exact (Option.some.inj h2).symm
theorem vx_callSW (X : Stand p l e R s m args below meth c T locs cells slots) (hexec : p.tables.exec = Jvm.exec) {own : String} {index : Nat} {y : MethodName} {bytes : ByteArray} {maxL : Nat} {ret : Option FieldType} {hh : List (Nat × Nat × Nat × Nat)}
    (hown : s.vm.findClass own = some m.cls) (hlink : (Cond.methodLink own index y).before args s = true) (hstat : (Cond.static y).before args s = true) (hinit : (Cond.initialized y.cls).before args s = true)
    (hcode : (Cond.codeWith y bytes maxL ret hh).before args s = true) (hy : y.cls ≠ "java/lang/invoke/MethodHandle" ∧ y.cls ≠ "java/lang/invoke/VarHandle")
    {W9 : Nat} {Pre : Pt → Array Value → Prop} {Post : Pt → Array Value → Option Value → Pt → Prop} (hK : Back l R p e below s args y 3 W9 Pre Post)
    {g : JFrame} (hg : g.method = m) (hsize : g.locals.size = c.maxLocals) {argsL rest : List Value} (hlen : ∀ sig, parseMethodDescriptor y.desc = some sig → argsL.length = sig.parameters.length)
    (hstack : g.stack = argsL.reverse ++ rest) (hW : 2 * g.monitorRoom + (rest.map fun v => v.category).sum ≤ W9) (hdg : decode c.code g.pc = .ok (.invokestatic index, 3))
    (hpre : ∀ vm₁, s.WarmedH vm₁ → Pre ⟨T.setVm vm₁, locs, cells, slots⟩ argsL.toArray) :
    ∃ (v : Option Value) (vm₁ : Vm) (B : Pt), s.WarmedH vm₁ ∧ Stand p l e R s m args below meth c B.U B.locs B.cells B.slots ∧ Post ⟨T.setVm vm₁, locs, cells, slots⟩ argsL.toArray v B ∧
      ∀ target, Steps p.tables e below (B.U.setTop { g with pc := g.pc + 3, stack := v.toList ++ rest }) target → Steps p.tables e below (T.setTop g) target := by
  obtain ⟨mk, methM, cM, hnamed, hmethM, -, -, -, -, -, -, hsigM⟩ := Cond.codeWith_spec hcode
  have hstatic : methM.isStatic = true := Cond.static_spec hnamed hmethM hstat
  obtain ⟨kP, hkP, -⟩ := className_of_methodNamed hnamed
  have hinitP : kP.init = .initialized := Cond.initialized_spec (findClass_of_methodNamed hnamed) hkP hinit
  obtain ⟨vm₁, X₁, hstep₁⟩ := X.invokestatic hexec hown hlink hnamed hmethM hstatic hkP hinitP hy (g := g) hg (argsL := argsL) (rest := rest) (hlen _ hsigM) hstack hdg
  obtain ⟨v, B, X', hpost, hsteps⟩ := hK m meth c ⟨T.setVm vm₁, locs, cells, slots⟩ { g with stack := rest } (.invokestatic index) mk argsL.toArray X₁ hg hsize hdg hW (X₁.named hnamed) (hpre vm₁ X₁.warmed)
  exact ⟨v, vm₁, B, X₁.warmed, X', hpost, fun target h => hstep₁ _ fun acts => by rw [doInvoke_state]; exact hsteps.trans h⟩
theorem vx_runSW {y : MethodName} {bytes cc : ByteArray} {maxL nL mc ms n index : Nat} {ret : Option FieldType} {hh : List (Nat × Nat × Nat × Nat)} {ws : List Cond} {rm : Room} {Pc : Array Value → State → Prop} {Qc : Array Value → State → Outcome → State → Prop} {free : Addr → Prop} {Ts : List Cond} {own : String} {As rest : List Value} {g : JFrame}
    (S : CallFix p m c cc nL s args Ts own) (hM : Met l y ws rm Pc Qc mc ms free) (cw : vx_CSW R s args own index y bytes maxL ret hh ws rm mc ms n) (hp : PreS s H Pc As)
    (hg : g.method = m) (hn : As.length = n) (hsize : g.locals.size = nL) (hstack : g.stack = As.reverse ++ rest) (hW : 2 * g.monitorRoom + (rest.map fun v => v.category).sum ≤ 8) (hdg : decode cc g.pc = .ok (.invokestatic index, 3)) (hf : cells + mc ≤ R.cells ∧ slots + ms ≤ R.slots) :
    va_Run p l e R s m args below meth c H locs cells slots mc ms g rest (Qc As.toArray) (free) := by
  obtain ⟨⟨hrc, hrs, hfr, hlo, hws, hcw⟩, hcode, hini, hy, hlen, hl, hstt⟩ := cw
  have hK : Back l R p e below s args y 3 8 (PreOf R mc ms Pc) (PostOf Qc mc ms free) := va_backW (hh := hh) (bytes := bytes) (maxL := maxL) (ret := ret) hM hp.1 hrc hrs hfr hlo hws hcw (fun a' U hW => word_at hW (Or.inl (by first | rfl | simp [Cond.onTables, Cond.keeps, Cond.steady])) hini)
  obtain ⟨hx, hb, hml, ho, -⟩ := S
  intro T hT X
  obtain ⟨v, vm₁, ⟨U', l2, c2, s2⟩, hW₁, X', ⟨g', mk, t, L, e1, e2, hq, h1, hL, h2, h3⟩, st⟩ := vx_callSW X hx (hh := hh) (bytes := bytes) (maxL := maxL) (ret := ret) ho hl hstt hini hcode hy hK hg (hsize.trans hml.symm) (argsL := As) (rest := rest) (fun sig h => hn.trans (hlen sig h)) hstack hW (by rw [hb]; exact hdg)
    (fun vm₁ hW₁ => ⟨hf.1, hf.2, hp.2 (T.setVm vm₁) hT hW₁⟩)
  dsimp only [Pt.U, Pt.locs, Pt.cells, Pt.slots] at X' e1 e2 h1 h2 h3 st
  subst h1; subst h2; subst h3
  exact ⟨v, (T.setVm vm₁).calling g' mk As.toArray, t, U', L, hT, X', hL, e1, e2, hq, st⟩
/-- not caught here, past rows that name other classes: it goes on to the caller -/
theorem vx_outP {p : Program} {l : Launch} {e : Env} {R : Room} {s : State} {m : MethodId} {args : Array Value} {below : List Frame} {meth : Method} {c : Code} {H : Heap} {locs : List Loc} {cells slots : Nat} {free : Addr → Prop} {ls : Array Slot} {rest : List Value} {Qc : Array Value → State → Outcome → State → Prop} {XC : String → State → State → Prop}
    {pc : Nat} {own E : String} {ce : Cell} {q : Addr} {mc ms : Nat} (hown : s.vm.findClass own = some m.cls) (hlocks : meth.locks = false)
    (hpass : ∀ z ∈ c.exceptionTable.toList, covers z pc = false ∨ (z.catchType ≠ 0 ∧ ∃ nm : String, (Cond.classLink own z.catchType nm).before args s = true ∧ va_Nc E nm s)) (hcell : H[q]? = some ce) (hv : ce.vm = .none) (hcl : s.vm.findClass E = some ce.cls)
    (hx : ∀ t : State, t.heap = H → s.vm.Alike t.vm → XC E s t) (hf : ∀ z ∈ locs, free z.base) (hc : cells ≤ mc) (hs : slots ≤ ms) :
    vx_W p l e R s m args below meth c H locs cells slots (vx_MQ below Qc XC args s mc ms free) (F0 m pc ls rest) q := by
  intro T hT X
  have hpl : e.platform.magicAccessors = ({} : Platform).magicAccessors := by rw [X.admits.platform]
  obtain ⟨vm', hW', X', st⟩ := X.outThrough hlocks q (g := F0 m pc ls rest) rfl rfl rfl (cell := ce) (by rw [hT]; exact hcell) (by rw [hv]; rfl)
    (by obtain ⟨k9, h9, -⟩ := Vm.findClass_spec hcl; exact ⟨k9, h9⟩) (fun z hz => by
      rcases hpass z hz with h | ⟨hz0, nm, hl1, hn1⟩
      · exact Or.inl h
      · obtain ⟨c6, hc6, hcl6⟩ := Cond.classLink_spec hown hl1 e.platform hpl
        obtain ⟨a8, b8, h1, h2, h3⟩ := hn1
        cases Option.some.inj (h1.symm.trans hcl)
        cases Option.some.inj (h2.symm.trans hc6)
        exact Or.inr ⟨hz0, _, hcl6, h3⟩)
  obtain ⟨g₀, hfr⟩ := X'.frames_eq
  have hcell9 : ((T.setVm vm').setFrames (.throwing q :: below)).heap[q]? = some ce := by
    show T.heap[q]? = some ce
    rw [hT]; exact hcell
  have hend : Ended ((T.setVm vm').setFrames (.throwing q :: below)) below (.threw q) := State.frames_setFrames _ (State.cur_lt_of_frames hfr)
  refine ⟨(T.setVm vm').setFrames (.throwing q :: below), ?_, .threw q, X'.here.running, hend, Or.inr ⟨q, rfl, E, ce, locs, hx _ hT (X'.ends _).1.alike, hcell9, hv, hcl, (X'.ends _).1, (X'.ends _).2.mono hc hs, hf⟩⟩
  rw [X.pushThrowing_eq]
  exact st
/-- a thing of a world lies in the heap -/
theorem vx_lt {D : va_G} {cl : List vw_C} {ws : va_W} {H1 : Heap} (h : va_P D cl ws H1) {k : Nat} {q : Nat × va_E} (hk : ws[k]? = some q) : q.1 < H1.size := (h k q hk).lt
end VXS
/-! ===== END ===== -/
/-! ===== BEGIN methods with a table of their own: called by a name, returning or throwing ===== -/
section VXH
/-! vx_backW, vx_callVX, vx_callSX, vx_callVW, vx_runVW, vx_runVX, vx_runSX, vx_ofWH follow the same proofs as their sisters above (Free/Laws.lean, Shelf42/LK1.lean); vx_outP calls Shelf42/NT130.lean (outThrough). -/
section
variable {l : Launch} {R : Room} {p : Program} {e : Env} {below : List Frame} {s : State} {sargs : Array Value} {y : MethodName} {len W9 : Nat}
theorem vx_backW {ws : List Cond} {rm : Room} {Pc : Array Value → State → Prop} {Qc : Array Value → State → Outcome → State → Prop} {XC : String → State → State → Prop} {mc ms : Nat} {free : Addr → Prop} {bytes : ByteArray} {maxL : Nat} {ret : Option FieldType} {hh : List (Nat × Nat × Nat × Nat)}
    (hM : vx_Met l y ws rm Pc Qc XC mc ms free) (hblind : FrameBlind Pc) (hrc : rm.cells = mc) (hrs : rm.slots = ms)
    (hframes : rm.frames + 1 ≤ R.frames) (hlocals : W9 + (maxL + 11) + rm.locals ≤ R.locals)
    (hws : ∀ w ∈ ws, ∀ a' U, s.WarmedH U.vm → w.before a' U = true) (hcode : Cond.codeWith y bytes maxL ret hh ∈ ws) (hinit : ∀ a' U, s.WarmedH U.vm → (Cond.initialized y.cls).before a' U = true) :
    vx_Back l R p e below s sargs y len W9 (PreOf R mc ms Pc) (PostOf Qc mc ms free) (vx_Post XC mc ms free) := by
  intro m meth c A g ig mk a X hg hsize hdg hW hn hp
  have h1 : (headSpec ws rm).pre.before a A.U = true := atoms_intro fun w hw => hws w hw _ _ X.warmed
  have h2 : (Cond.codeWith y bytes maxL ret hh).before a A.U = true := hws _ hcode _ _ X.warmed
  have h3 : (Cond.initialized y.cls).before a A.U = true := hinit _ _ X.warmed
  have h4 : A.cells + (headSpec ws rm).room.cells ≤ R.cells := by rw [show (headSpec ws rm).room.cells = mc from hrc]; exact hp.1
  have h5 : A.slots + (headSpec ws rm).room.slots ≤ R.slots := by rw [show (headSpec ws rm).room.slots = ms from hrs]; exact hp.2.1
  have hPc : Pc a (A.U.calling g mk a) := hblind _ _ _ _ hp.2.2
  obtain ⟨U, Ls, c0, s0⟩ := A
  dsimp only [Pt.U, Pt.locs, Pt.cells, Pt.slots] at h1 h2 h3 h4 h5 X hn hPc ⊢
  obtain ⟨m9, methY, cY, hn9, hmY, hcY, -, hlY, -⟩ := Cond.codeWith_spec h2
  cases Option.some.inj (hn9.symm.trans hn)
  obtain ⟨kY, hkY, -⟩ := className_of_methodNamed hn
  have hinitY : kY.init = .initialized := Cond.initialized_spec (findClass_of_methodNamed hn) hkY h3
  have h : At U g.method c below := by rw [hg]; exact X.here
  have hlocals9 : W9 + (maxL + 11) + (headSpec ws rm).room.locals ≤ R.locals := hlocals
  have happ : (headSpec ws rm).appliesLoose y e.platform (U.calling g mk a) = true :=
    Spec.appliesLoose_calling (g := g) h hdg hn hkY hinitY
      (X.room_calling (g := g) (R' := (headSpec ws rm).room) hsize hmY hcY hframes (by rw [hlY]; omega) h4 h5) h1
  obtain ⟨mid, hmid⟩ := h.above
  have hfr : (U.setTop g).frames = (.java g :: mid) ++ below := by rw [State.frames_setTop' g h.top, hmid]; rfl
  obtain ⟨o, s₂, hsteps, -, hend, hq⟩ := Steps.callFree hM p X.admits X.cas X.clock (acts := []) hfr happ hPc trivial
  have hq' : vx_Q Qc XC mc ms free a (U.calling g mk a) o s₂ := hq
  rw [State.frames_setTop' g h.top] at hend
  obtain ⟨g₀, hg0⟩ := Option.isSome_iff_exists.mp h.top
  obtain ⟨r, hr⟩ := State.topJava?_eq_some.mp hg0
  have hr' : (({ U with heap := s₂.heap, slotsUsed := s₂.slotsUsed } : State).setVm s₂.vm).frames = .java g₀ :: r := hr
  rcases hq' with ⟨hqc, L, hfe, hL⟩ | ⟨q, rfl, E, ce, L, hx, hce, hcv, hcl, hW₂, hsm, hL⟩
  · obtain ⟨⟨v, rfl⟩, hW₂, e2, q2, q3, q4, q5, q6⟩ := id hfe
    have e3 : s₂ = ({ (U.calling g mk a).setFrames s₂.frames with heap := s₂.heap, slotsUsed := s₂.slotsUsed } : State).setVm s₂.vm := by
      have : s₂ = ({ s₂ with vm := (U.calling g mk a).vm } : State).setVm s₂.vm := rfl
      rw [e2] at this
      exact this
    obtain ⟨c₂, i₂, len₂, hc₂, hd₂, hf₂⟩ := hend
    have hW' : U.WarmedH s₂.vm := hW₂
    have hcc : c₂ = c := by
      have h1 : s₂.code? g.method = U.code? g.method := by
        rw [State.code?_eq, State.code?_eq, hW'.alike.method?]
      exact Option.some.inj (hc₂.symm.trans (h1.trans h.code))
    subst hcc
    have hlen : len₂ = len := by rw [hdg] at hd₂; cases hd₂; rfl
    subst hlen
    have hs₂ : s₂ = (({ U with heap := s₂.heap, slotsUsed := s₂.slotsUsed } : State).setVm s₂.vm).setTop { g with pc := g.pc + len₂, stack := v.toList ++ g.stack } := by
      refine e3.trans ?_
      rw [hf₂, State.calling_eq h.top, State.setFrames_setFrames, State.setTop_of_frames _ hr', hr]
      rfl
    have hsame : U.sameButNew ({ U with heap := s₂.heap, slotsUsed := s₂.slotsUsed } : State) L mc ms := by
      refine ⟨?_, q2, q3, q4, q5, q6⟩
      obtain ⟨t, ht, -⟩ := State.frames_cons hr
      show ({ U with heap := s₂.heap, slotsUsed := s₂.slotsUsed } : State) = { U.setFrames U.frames with heap := s₂.heap, slotsUsed := s₂.slotsUsed }
      rw [State.setFrames_self ht]
    subst hg
    refine Or.inl ⟨v, ⟨(({ U with heap := s₂.heap, slotsUsed := s₂.slotsUsed } : State).setVm s₂.vm), Ls ++ L, c0 + mc, s0 + ms⟩,
      ⟨X.admits, X.cas, X.clock, X.frames, X.room, X.hears, X.method, X.code, (X.here.setHeapUsed s₂.heap s₂.slotsUsed).setVm hW'.alike, X.tail, State.WarmedH.trans X.warmed hW', X.limits, X.bytes, X.same.trans (hsame.setVm s.vm)⟩,
      ⟨g, mk, s₂, L, rfl, rfl, hqc, rfl, hL, rfl, rfl⟩, ?_⟩
    show Steps p.tables e below _ ((({ U with heap := s₂.heap, slotsUsed := s₂.slotsUsed } : State).setVm s₂.vm).setTop { g with pc := g.pc + len₂, stack := v.toList ++ g.stack })
    rw [← hs₂]
    exact hsteps
  · obtain ⟨e2, q2, q3, q4, q5, q6⟩ := id hsm
    have e3 : s₂ = ({ (U.calling g mk a).setFrames s₂.frames with heap := s₂.heap, slotsUsed := s₂.slotsUsed } : State).setVm s₂.vm := by
      have : s₂ = ({ s₂ with vm := (U.calling g mk a).vm } : State).setVm s₂.vm := rfl
      rw [e2] at this
      exact this
    have hf₂ : s₂.frames = .throwing q :: .java g :: U.frames.tail := hend
    have hW' : U.WarmedH s₂.vm := hW₂
    have hs₂ : s₂ = ((({ U with heap := s₂.heap, slotsUsed := s₂.slotsUsed } : State).setVm s₂.vm).setTop g).pushFrame (.throwing q) := by
      refine e3.trans ?_
      rw [hf₂, State.calling_eq h.top, State.setFrames_setFrames, State.pushFrame, State.frames_setTop _ hr', State.setTop_of_frames _ hr', State.setFrames_setFrames, hr]
      rfl
    have hsame : U.sameButNew ({ U with heap := s₂.heap, slotsUsed := s₂.slotsUsed } : State) L mc ms := by
      refine ⟨?_, q2, q3, q4, q5, q6⟩
      obtain ⟨t, ht, -⟩ := State.frames_cons hr
      show ({ U with heap := s₂.heap, slotsUsed := s₂.slotsUsed } : State) = { U.setFrames U.frames with heap := s₂.heap, slotsUsed := s₂.slotsUsed }
      rw [State.setFrames_self ht]
    subst hg
    refine Or.inr ⟨q, ⟨(({ U with heap := s₂.heap, slotsUsed := s₂.slotsUsed } : State).setVm s₂.vm), Ls ++ L, c0 + mc, s0 + ms⟩,
      ⟨X.admits, X.cas, X.clock, X.frames, X.room, X.hears, X.method, X.code, (X.here.setHeapUsed s₂.heap s₂.slotsUsed).setVm hW'.alike, X.tail, State.WarmedH.trans X.warmed hW', X.limits, X.bytes, X.same.trans (hsame.setVm s.vm)⟩,
      ⟨g, mk, s₂, L, E, ce, rfl, rfl, hx, hce, hcv, hcl, rfl, hL, rfl, rfl⟩, ?_⟩
    show Steps p.tables e below _ (((({ U with heap := s₂.heap, slotsUsed := s₂.slotsUsed } : State).setVm s₂.vm).setTop g).pushFrame (.throwing q))
    rw [← hs₂]
    exact hsteps
end
variable {p : Program} {l : Launch} {e : Env} {R : Room} {s : State} {m : MethodId} {args : Array Value} {below : List Frame} {meth : Method} {c : Code} {T : State} {H : Heap} {locs : List Loc} {cells slots : Nat}
theorem vx_callVX (X : Stand p l e R s m args below meth c T locs cells slots) (hexec : p.tables.exec = Jvm.exec) {own C : String} {index : Nat} {y : MethodName} {bytes : ByteArray} {maxL : Nat} {ret : Option FieldType} {hh : List (Nat × Nat × Nat × Nat)}
    (hown : s.vm.findClass own = some m.cls) (hlink : (Cond.methodLink own index y).before args s = true) (hinst : (Cond.instanceMethod y).before args s = true) (hsel : (Cond.selects C y y).before args s = true)
    (hcode : (Cond.codeWith y bytes maxL ret hh).before args s = true) (hy : y.cls ≠ "java/lang/invoke/MethodHandle" ∧ y.cls ≠ "java/lang/invoke/VarHandle")
    {W9 : Nat} {Pre : Pt → Array Value → Prop} {Post : Pt → Array Value → Option Value → Pt → Prop} {PostX : Pt → Array Value → Addr → Pt → Prop} (hK : vx_Back l R p e below s args y 3 W9 Pre Post PostX)
    {b : Addr} {cellB : Cell} (hcell : T.heap[b]? = some cellB) (hobj : cellB.vm.isStatics = false) (hcls : s.vm.findClass C = some cellB.cls)
    {g : JFrame} (hg : g.method = m) (hsize : g.locals.size = c.maxLocals) {argsL rest : List Value} (hlen : ∀ sig, parseMethodDescriptor y.desc = some sig → argsL.length = sig.parameters.length)
    (hstack : g.stack = argsL.reverse ++ .ref b :: rest) (hW : 2 * g.monitorRoom + (rest.map fun v => v.category).sum ≤ W9) (hdg : decode c.code g.pc = .ok (.invokevirtual index, 3))
    (hpre : ∀ vm₁, s.WarmedH vm₁ → Pre ⟨T.setVm vm₁, locs, cells, slots⟩ (Value.ref b :: argsL).toArray) :
    (∃ (v : Option Value) (vm₁ : Vm) (B : Pt), s.WarmedH vm₁ ∧ Stand p l e R s m args below meth c B.U B.locs B.cells B.slots ∧ Post ⟨T.setVm vm₁, locs, cells, slots⟩ (Value.ref b :: argsL).toArray v B ∧
      ∀ target, Steps p.tables e below (B.U.setTop { g with pc := g.pc + 3, stack := v.toList ++ rest }) target → Steps p.tables e below (T.setTop g) target) ∨
    (∃ (q : Addr) (vm₁ : Vm) (B : Pt), s.WarmedH vm₁ ∧ Stand p l e R s m args below meth c B.U B.locs B.cells B.slots ∧ PostX ⟨T.setVm vm₁, locs, cells, slots⟩ (Value.ref b :: argsL).toArray q B ∧
      Steps p.tables e below (T.setTop g) ((B.U.setTop { g with stack := rest }).pushFrame (.throwing q))) := by
  obtain ⟨mk, methM, hnamed, hmethM, hstM, habM⟩ := Cond.instanceMethod_spec hinst
  obtain ⟨m8, methM', cM, hn8, hmethM', -, -, -, -, -, -, hsigM⟩ := Cond.codeWith_spec hcode
  cases Option.some.inj (hn8.symm.trans hnamed)
  cases hmethM.symm.trans hmethM'
  obtain ⟨c2, r2, m2, q1, q2, q3, q4, kP, hkP, hkPi⟩ := Cond.selects_spec hsel
  cases hcls.symm.trans q1
  cases (State.methodFound?_of_named hnamed hy).symm.trans q2
  cases hnamed.symm.trans q3
  have hselP : selectMethod e.platform s.vm cellB.cls mk = .method mk := by rw [Launch.admits_selectMethod X.admits]; exact q4
  obtain ⟨vm₁, X₁, hstep₁⟩ := X.invokevirtual hexec hown hlink hnamed hmethM hstM hkP hkPi hy (a := b) (cell := cellB) hcell
    (fun z h => by rw [h] at hobj; cases hobj) hselP hmethM habM hkP hkPi (g := g) hg (argsL := argsL) (rest := rest) (hlen _ hsigM) hstack hdg
  rcases hK m meth c ⟨T.setVm vm₁, locs, cells, slots⟩ { g with stack := rest } (.invokevirtual index) mk (Value.ref b :: argsL).toArray X₁ hg hsize hdg hW (X₁.named hnamed) (hpre vm₁ X₁.warmed) with ⟨v, B, X', hpost, hsteps⟩ | ⟨q, B, X', hpost, hsteps⟩
  · exact Or.inl ⟨v, vm₁, B, X₁.warmed, X', hpost, fun target h => hstep₁ _ fun acts => by rw [doInvoke_state]; exact hsteps.trans h⟩
  · exact Or.inr ⟨q, vm₁, B, X₁.warmed, X', hpost, hstep₁ _ fun acts => by rw [doInvoke_state]; exact hsteps⟩
theorem vx_callSX (X : Stand p l e R s m args below meth c T locs cells slots) (hexec : p.tables.exec = Jvm.exec) {own : String} {index : Nat} {y : MethodName} {bytes : ByteArray} {maxL : Nat} {ret : Option FieldType} {hh : List (Nat × Nat × Nat × Nat)}
    (hown : s.vm.findClass own = some m.cls) (hlink : (Cond.methodLink own index y).before args s = true) (hstat : (Cond.static y).before args s = true) (hinit : (Cond.initialized y.cls).before args s = true)
    (hcode : (Cond.codeWith y bytes maxL ret hh).before args s = true) (hy : y.cls ≠ "java/lang/invoke/MethodHandle" ∧ y.cls ≠ "java/lang/invoke/VarHandle")
    {W9 : Nat} {Pre : Pt → Array Value → Prop} {Post : Pt → Array Value → Option Value → Pt → Prop} {PostX : Pt → Array Value → Addr → Pt → Prop} (hK : vx_Back l R p e below s args y 3 W9 Pre Post PostX)
    {g : JFrame} (hg : g.method = m) (hsize : g.locals.size = c.maxLocals) {argsL rest : List Value} (hlen : ∀ sig, parseMethodDescriptor y.desc = some sig → argsL.length = sig.parameters.length)
    (hstack : g.stack = argsL.reverse ++ rest) (hW : 2 * g.monitorRoom + (rest.map fun v => v.category).sum ≤ W9) (hdg : decode c.code g.pc = .ok (.invokestatic index, 3))
    (hpre : ∀ vm₁, s.WarmedH vm₁ → Pre ⟨T.setVm vm₁, locs, cells, slots⟩ argsL.toArray) :
    (∃ (v : Option Value) (vm₁ : Vm) (B : Pt), s.WarmedH vm₁ ∧ Stand p l e R s m args below meth c B.U B.locs B.cells B.slots ∧ Post ⟨T.setVm vm₁, locs, cells, slots⟩ argsL.toArray v B ∧
      ∀ target, Steps p.tables e below (B.U.setTop { g with pc := g.pc + 3, stack := v.toList ++ rest }) target → Steps p.tables e below (T.setTop g) target) ∨
    (∃ (q : Addr) (vm₁ : Vm) (B : Pt), s.WarmedH vm₁ ∧ Stand p l e R s m args below meth c B.U B.locs B.cells B.slots ∧ PostX ⟨T.setVm vm₁, locs, cells, slots⟩ argsL.toArray q B ∧
      Steps p.tables e below (T.setTop g) ((B.U.setTop { g with stack := rest }).pushFrame (.throwing q))) := by
  obtain ⟨mk, methM, cM, hnamed, hmethM, -, -, -, -, -, -, hsigM⟩ := Cond.codeWith_spec hcode
  have hstatic : methM.isStatic = true := Cond.static_spec hnamed hmethM hstat
  obtain ⟨kP, hkP, -⟩ := className_of_methodNamed hnamed
  have hinitP : kP.init = .initialized := Cond.initialized_spec (findClass_of_methodNamed hnamed) hkP hinit
  obtain ⟨vm₁, X₁, hstep₁⟩ := X.invokestatic hexec hown hlink hnamed hmethM hstatic hkP hinitP hy (g := g) hg (argsL := argsL) (rest := rest) (hlen _ hsigM) hstack hdg
  rcases hK m meth c ⟨T.setVm vm₁, locs, cells, slots⟩ { g with stack := rest } (.invokestatic index) mk argsL.toArray X₁ hg hsize hdg hW (X₁.named hnamed) (hpre vm₁ X₁.warmed) with ⟨v, B, X', hpost, hsteps⟩ | ⟨q, B, X', hpost, hsteps⟩
  · exact Or.inl ⟨v, vm₁, B, X₁.warmed, X', hpost, fun target h => hstep₁ _ fun acts => by rw [doInvoke_state]; exact hsteps.trans h⟩
  · exact Or.inr ⟨q, vm₁, B, X₁.warmed, X', hpost, hstep₁ _ fun acts => by rw [doInvoke_state]; exact hsteps⟩
theorem vx_callVW (X : Stand p l e R s m args below meth c T locs cells slots) (hexec : p.tables.exec = Jvm.exec) {own C : String} {index : Nat} {y : MethodName} {bytes : ByteArray} {maxL : Nat} {ret : Option FieldType} {hh : List (Nat × Nat × Nat × Nat)}
    (hown : s.vm.findClass own = some m.cls) (hlink : (Cond.methodLink own index y).before args s = true) (hinst : (Cond.instanceMethod y).before args s = true) (hsel : (Cond.selects C y y).before args s = true)
    (hcode : (Cond.codeWith y bytes maxL ret hh).before args s = true) (hy : y.cls ≠ "java/lang/invoke/MethodHandle" ∧ y.cls ≠ "java/lang/invoke/VarHandle")
    {W9 : Nat} {Pre : Pt → Array Value → Prop} {Post : Pt → Array Value → Option Value → Pt → Prop} (hK : Back l R p e below s args y 3 W9 Pre Post)
    {b : Addr} {cellB : Cell} (hcell : T.heap[b]? = some cellB) (hobj : cellB.vm.isStatics = false) (hcls : s.vm.findClass C = some cellB.cls)
    {g : JFrame} (hg : g.method = m) (hsize : g.locals.size = c.maxLocals) {argsL rest : List Value} (hlen : ∀ sig, parseMethodDescriptor y.desc = some sig → argsL.length = sig.parameters.length)
    (hstack : g.stack = argsL.reverse ++ .ref b :: rest) (hW : 2 * g.monitorRoom + (rest.map fun v => v.category).sum ≤ W9) (hdg : decode c.code g.pc = .ok (.invokevirtual index, 3))
    (hpre : ∀ vm₁, s.WarmedH vm₁ → Pre ⟨T.setVm vm₁, locs, cells, slots⟩ (Value.ref b :: argsL).toArray) :
    ∃ (v : Option Value) (vm₁ : Vm) (B : Pt), s.WarmedH vm₁ ∧ Stand p l e R s m args below meth c B.U B.locs B.cells B.slots ∧ Post ⟨T.setVm vm₁, locs, cells, slots⟩ (Value.ref b :: argsL).toArray v B ∧
      ∀ target, Steps p.tables e below (B.U.setTop { g with pc := g.pc + 3, stack := v.toList ++ rest }) target → Steps p.tables e below (T.setTop g) target := by
  obtain ⟨mk, methM, hnamed, hmethM, hstM, habM⟩ := Cond.instanceMethod_spec hinst
  obtain ⟨m8, methM', cM, hn8, hmethM', -, -, -, -, -, -, hsigM⟩ := Cond.codeWith_spec hcode
  cases Option.some.inj (hn8.symm.trans hnamed)
  cases hmethM.symm.trans hmethM'
  obtain ⟨c2, r2, m2, q1, q2, q3, q4, kP, hkP, hkPi⟩ := Cond.selects_spec hsel
  cases hcls.symm.trans q1
  cases (State.methodFound?_of_named hnamed hy).symm.trans q2
  cases hnamed.symm.trans q3
  have hselP : selectMethod e.platform s.vm cellB.cls mk = .method mk := by rw [Launch.admits_selectMethod X.admits]; exact q4
  obtain ⟨vm₁, X₁, hstep₁⟩ := X.invokevirtual hexec hown hlink hnamed hmethM hstM hkP hkPi hy (a := b) (cell := cellB) hcell
    (fun z h => by rw [h] at hobj; cases hobj) hselP hmethM habM hkP hkPi (g := g) hg (argsL := argsL) (rest := rest) (hlen _ hsigM) hstack hdg
  obtain ⟨v, B, X', hpost, hsteps⟩ := hK m meth c ⟨T.setVm vm₁, locs, cells, slots⟩ { g with stack := rest } (.invokevirtual index) mk (Value.ref b :: argsL).toArray X₁ hg hsize hdg hW (X₁.named hnamed) (hpre vm₁ X₁.warmed)
  exact ⟨v, vm₁, B, X₁.warmed, X', hpost, fun target h => hstep₁ _ fun acts => by rw [doInvoke_state]; exact hsteps.trans h⟩
abbrev vx_CVW (R : Room) (s : State) (args : Array Value) (own C : String) (index : Nat) (y : MethodName) (bytes : ByteArray) (maxL : Nat) (ret : Option FieldType) (hh : List (Nat × Nat × Nat × Nat)) (ws : List Cond) (rm : Room) (mc ms n : Nat) : Prop :=
  (rm.cells = mc ∧ rm.slots = ms ∧ rm.frames + 1 ≤ R.frames ∧ 8 + (maxL + 11) + rm.locals ≤ R.locals ∧ (∀ w ∈ ws, ∀ (a' : Array Value) (U : State), s.WarmedH U.vm → w.before a' U = true) ∧ Cond.codeWith y bytes maxL ret hh ∈ ws) ∧
  (Cond.codeWith y bytes maxL ret hh).before args s = true ∧ (Cond.initialized y.cls).before args s = true ∧ (y.cls ≠ "java/lang/invoke/MethodHandle" ∧ y.cls ≠ "java/lang/invoke/VarHandle") ∧
  (∀ sig, parseMethodDescriptor y.desc = some sig → n = sig.parameters.length) ∧ (Cond.methodLink own index y).before args s = true ∧ (Cond.instanceMethod y).before args s = true ∧ (Cond.selects C y y).before args s = true
theorem vx_cwVW {own C : String} {index maxL mc ms : Nat} {y : MethodName} {bytes : ByteArray} {ret : Option FieldType} {hh : List (Nat × Nat × Nat × Nat)} {Ts ws ws' : List Cond} {rm : Room} (n : Nat) (ht : ∀ w ∈ Ts, w.before args s = true) (hT : GoodIn Ts (wsV own index C y ws)) (hw : ws = Cond.codeWith y bytes maxL ret hh :: ws') (hrc : rm.cells = mc) (hrs : rm.slots = ms)
    (hd : y.cls = C ∧ y.cls ≠ "java/lang/invoke/MethodHandle" ∧ y.cls ≠ "java/lang/invoke/VarHandle" ∧ (parseMethodDescriptor y.desc).map (fun d => d.parameters.length) = some n) (hR : rm.frames + 1 ≤ R.frames ∧ 8 + (maxL + 11) + rm.locals ≤ R.locals) :
    vx_CVW R s args own C index y bytes maxL ret hh ws rm mc ms n := by
  obtain ⟨hC, hd⟩ := hd
  subst hC
  have ok : ∀ w ∈ wsV own index y.cls y ws, w.before args s = true := fun w h => ht w (hT w h).1
  have hG : GoodIn Ts ws := fun w h => hT w (by unfold wsV; exact List.mem_append_right _ h)
  have hc : Cond.codeWith y bytes maxL ret hh ∈ ws := by rw [hw]; exact List.mem_cons_self
  refine ⟨⟨hrc, hrs, hR.1, hR.2, pay_in ht hG, hc⟩, ht _ (hG _ hc).1, ok _ (by simp [wsV]), ⟨hd.1, hd.2.1⟩, fun sig h => ?_, ok _ (by simp [wsV]), ok _ (by simp [wsV]), ok _ (by simp [wsV])⟩
  have h2 := hd.2.2
  rw [h] at h2
  exact (Option.some.inj h2).symm
theorem vx_runVW {y : MethodName} {bytes cc : ByteArray} {maxL nL mc ms n index : Nat} {ret : Option FieldType} {hh : List (Nat × Nat × Nat × Nat)} {ws : List Cond} {rm : Room} {Pc : Array Value → State → Prop} {Qc : Array Value → State → Outcome → State → Prop} {free : Addr → Prop} {Ts : List Cond} {own C : String} {b : Addr} {As rest : List Value} {g : JFrame}
    (S : CallFix p m c cc nL s args Ts own) (hM : Met l y ws rm Pc Qc mc ms free) (cw : vx_CVW R s args own C index y bytes maxL ret hh ws rm mc ms n) (hp : PreV s H C b Pc As)
    (hg : g.method = m) (hn : As.length = n) (hsize : g.locals.size = nL) (hstack : g.stack = As.reverse ++ .ref b :: rest) (hW : 2 * g.monitorRoom + (rest.map fun v => v.category).sum ≤ 8) (hdg : decode cc g.pc = .ok (.invokevirtual index, 3)) (hf : cells + mc ≤ R.cells ∧ slots + ms ≤ R.slots) :
    va_Run p l e R s m args below meth c H locs cells slots mc ms g rest (Qc (Value.ref b :: As).toArray) free := by
  obtain ⟨⟨hrc, hrs, hfr, hlo, hws, hcw⟩, hcode, hini, hy, hlen, hl, hin, hse⟩ := cw
  have hK : Back l R p e below s args y 3 8 (PreOf R mc ms Pc) (PostOf Qc mc ms free) := va_backW (hh := hh) (bytes := bytes) (maxL := maxL) (ret := ret) hM hp.1 hrc hrs hfr hlo hws hcw (fun a' U hW => word_at hW (Or.inl (by first | rfl | simp [Cond.onTables, Cond.keeps, Cond.steady])) hini)
  obtain ⟨hx, hb, hml, ho, -⟩ := S
  obtain ⟨-, ⟨cellB, hcB, hoB, hclB⟩, hPc⟩ := hp
  intro T hT X
  obtain ⟨v, vm₁, ⟨U', l2, c2, s2⟩, hW₁, X', ⟨g', mk, t, L, e1, e2, hq, h1, hL, h2, h3⟩, st⟩ := vx_callVW X hx (C := C) (hh := hh) (bytes := bytes) (maxL := maxL) (ret := ret) ho hl hin hse hcode hy hK (by rw [hT]; exact hcB) hoB hclB hg (hsize.trans hml.symm) (argsL := As) (rest := rest) (fun sig h => hn.trans (hlen sig h)) hstack hW (by rw [hb]; exact hdg)
    (fun vm₁ hW₁ => ⟨hf.1, hf.2, hPc (T.setVm vm₁) hT hW₁⟩)
  dsimp only [Pt.U, Pt.locs, Pt.cells, Pt.slots] at X' e1 e2 h1 h2 h3 st
  subst h1; subst h2; subst h3
  exact ⟨v, (T.setVm vm₁).calling g' mk (Value.ref b :: As).toArray, t, U', L, hT, X', hL, e1, e2, hq, st⟩
section
variable {y : MethodName} {bytes cc : ByteArray} {maxL nL mc ms n index : Nat} {ret : Option FieldType} {ws : List Cond} {rm : Room} {Pc : Array Value → State → Prop} {Qc : Array Value → State → Outcome → State → Prop} {XC : String → State → State → Prop} {free : Addr → Prop} {Ts : List Cond} {own C : String} {b : Addr} {As rest : List Value} {g : JFrame}
theorem vx_runVX {hh : List (Nat × Nat × Nat × Nat)} (S : CallFix p m c cc nL s args Ts own) (hM : vx_Met l y ws rm Pc Qc XC mc ms free) (cw : vx_CVW R s args own C index y bytes maxL ret hh ws rm mc ms n) (hp : PreV s H C b Pc As)
    (hg : g.method = m) (hn : As.length = n) (hsize : g.locals.size = nL) (hstack : g.stack = As.reverse ++ .ref b :: rest) (hW : 2 * g.monitorRoom + (rest.map fun v => v.category).sum ≤ 8) (hdg : decode cc g.pc = .ok (.invokevirtual index, 3)) (hf : cells + mc ≤ R.cells ∧ slots + ms ≤ R.slots) :
    vx_Run p l e R s m args below meth c H locs cells slots mc ms g rest (Qc (Value.ref b :: As).toArray) XC free := by
  obtain ⟨⟨hrc, hrs, hfr, hlo, hws, hcw⟩, hcode, hini, hy, hlen, hl, hin, hse⟩ := cw
  have hK : vx_Back l R p e below s args y 3 8 (PreOf R mc ms Pc) (PostOf Qc mc ms free) (vx_Post XC mc ms free) := vx_backW (hh := hh) (bytes := bytes) (maxL := maxL) (ret := ret) hM hp.1 hrc hrs hfr hlo hws hcw (fun a' U hW => word_at hW (Or.inl (by first | rfl | simp [Cond.onTables, Cond.keeps, Cond.steady])) hini)
  obtain ⟨hx, hb, hml, ho, -⟩ := S
  obtain ⟨-, ⟨cellB, hcB, hoB, hclB⟩, hPc⟩ := hp
  intro T hT X
  rcases vx_callVX X hx (C := C) (hh := hh) (bytes := bytes) (maxL := maxL) (ret := ret) ho hl hin hse hcode hy hK (by rw [hT]; exact hcB) hoB hclB hg (hsize.trans hml.symm) (argsL := As) (rest := rest) (fun sig h => hn.trans (hlen sig h)) hstack hW (by rw [hb]; exact hdg)
    (fun vm₁ hW₁ => ⟨hf.1, hf.2, hPc (T.setVm vm₁) hT hW₁⟩) with ⟨v, vm₁, ⟨U', l2, c2, s2⟩, hW₁, X', ⟨g', mk, t, L, e1, e2, hq, h1, hL, h2, h3⟩, st⟩ | ⟨q, vm₁, ⟨U', l2, c2, s2⟩, hW₁, X', ⟨g', mk, t, L, E, ce, e1, e2, hq, hce, hcv, hcl, h1, hL, h2, h3⟩, st⟩
  · dsimp only [Pt.U, Pt.locs, Pt.cells, Pt.slots] at X' e1 e2 h1 h2 h3 st
    subst h1; subst h2; subst h3
    exact Or.inl ⟨v, (T.setVm vm₁).calling g' mk (Value.ref b :: As).toArray, t, U', L, hT, X', hL, e1, e2, hq, st⟩
  · dsimp only [Pt.U, Pt.locs, Pt.cells, Pt.slots] at X' e1 e2 h1 h2 h3 st hcl
    subst h1; subst h2; subst h3
    exact Or.inr ⟨q, (T.setVm vm₁).calling g' mk (Value.ref b :: As).toArray, t, U', L, E, ce, hT, X', hL, e1, e2, hq, hce, hcv, vx_cls hW₁ hcl, st⟩
theorem vx_runSX {hh : List (Nat × Nat × Nat × Nat)} (S : CallFix p m c cc nL s args Ts own) (hM : vx_Met l y ws rm Pc Qc XC mc ms free) (cw : vx_CSW R s args own index y bytes maxL ret hh ws rm mc ms n) (hp : PreS s H Pc As)
    (hg : g.method = m) (hn : As.length = n) (hsize : g.locals.size = nL) (hstack : g.stack = As.reverse ++ rest) (hW : 2 * g.monitorRoom + (rest.map fun v => v.category).sum ≤ 8) (hdg : decode cc g.pc = .ok (.invokestatic index, 3)) (hf : cells + mc ≤ R.cells ∧ slots + ms ≤ R.slots) :
    vx_Run p l e R s m args below meth c H locs cells slots mc ms g rest (Qc As.toArray) XC free := by
  obtain ⟨⟨hrc, hrs, hfr, hlo, hws, hcw⟩, hcode, hini, hy, hlen, hl, hstt⟩ := cw
  have hK : vx_Back l R p e below s args y 3 8 (PreOf R mc ms Pc) (PostOf Qc mc ms free) (vx_Post XC mc ms free) := vx_backW (hh := hh) (bytes := bytes) (maxL := maxL) (ret := ret) hM hp.1 hrc hrs hfr hlo hws hcw (fun a' U hW => word_at hW (Or.inl (by first | rfl | simp [Cond.onTables, Cond.keeps, Cond.steady])) hini)
  obtain ⟨hx, hb, hml, ho, -⟩ := S
  intro T hT X
  rcases vx_callSX X hx (hh := hh) (bytes := bytes) (maxL := maxL) (ret := ret) ho hl hstt hini hcode hy hK hg (hsize.trans hml.symm) (argsL := As) (rest := rest) (fun sig h => hn.trans (hlen sig h)) hstack hW (by rw [hb]; exact hdg)
    (fun vm₁ hW₁ => ⟨hf.1, hf.2, hp.2 (T.setVm vm₁) hT hW₁⟩) with ⟨v, vm₁, ⟨U', l2, c2, s2⟩, hW₁, X', ⟨g', mk, t, L, e1, e2, hq, h1, hL, h2, h3⟩, st⟩ | ⟨q, vm₁, ⟨U', l2, c2, s2⟩, hW₁, X', ⟨g', mk, t, L, E, ce, e1, e2, hq, hce, hcv, hcl, h1, hL, h2, h3⟩, st⟩
  · dsimp only [Pt.U, Pt.locs, Pt.cells, Pt.slots] at X' e1 e2 h1 h2 h3 st
    subst h1; subst h2; subst h3
    exact Or.inl ⟨v, (T.setVm vm₁).calling g' mk As.toArray, t, U', L, hT, X', hL, e1, e2, hq, st⟩
  · dsimp only [Pt.U, Pt.locs, Pt.cells, Pt.slots] at X' e1 e2 h1 h2 h3 st hcl
    subst h1; subst h2; subst h3
    exact Or.inr ⟨q, (T.setVm vm₁).calling g' mk As.toArray, t, U', L, E, ce, hT, X', hL, e1, e2, hq, hce, hcv, vx_cls hW₁ hcl, st⟩
end
end VXH
theorem vx_ofWH {l : Launch} {y : MethodName} {ws ws' : List Cond} {rm : Room} {Pc : Array Value → State → Prop} {Qc : Array Value → State → Outcome → State → Prop} {XC : String → State → State → Prop} {mc ms : Nat} {free : Addr → Prop} {cc : ByteArray} {maxL : Nat} {ret : Option FieldType} {hh : List (Nat × Nat × Nat × Nat)}
    (hy : plainName y.cls = true) (hw : ws = Cond.codeWith y cc maxL ret hh :: ws')
    (body : ∀ p e s m args below meth c s₁, BodyLoose p l y (headSpec ws rm) cc maxL ret e s m args below meth c s₁ → c.maxLocals = maxL → Pc args s →
      W p l e (headSpec ws rm).room s m args below meth c s.heap [] 0 0 (vx_MQ below Qc XC args s mc ms free) (entryFrame m args maxL)) : vx_Met l y ws rm Pc Qc XC mc ms free := by
  refine MetFree.of_bodyS (code := cc) (maxLocals := maxL) (ret := ret) hy ?_ ?_
  · intro args s m h hn
    obtain ⟨m9, meth, c, hn9, h1, h2, h3, h4, -, h5, h6, -⟩ := Cond.codeWith_spec (atoms_spec (ws := ws) h _ (by rw [hw]; exact List.mem_cons_self))
    cases hn.symm.trans hn9
    exact ⟨meth, c, h1, h2, h3, h4, h5, h6⟩
  · intro p e s m args below meth c s₁ B hml hP _
    have hh0 : s₁.heap = s.heap := by rw [B.state]; rfl
    obtain ⟨t, a1, o, b1, b2, b3⟩ := body p e s m args below meth c s₁ B hml hP s₁ hh0 (Stand.of_body B)
    exact ⟨t, o, a1, b1, b2, b3⟩
/-! ===== END ===== -/
end
section
/-! ===== BEGIN printed: names, fields, word lists, decode rows ===== -/
def RX0 : String := "RestedArms$Board"
def TX0 : u_T := fun k => match k with
  | 0 => ("RestedArms$Board", "gifts", "[I", true)
  | 1 => ("RestedArms$Board", "goods", "[I", true)
  | 2 => ("RestedArms$Board", "bads", "[I", true)
  | 3 => ("RestedArms$Board", "chances", "[I", true)
  | 4 => ("RestedArms$Board", "places", "[I", true)
  | 5 => ("RestedArms$Board", "pulls", "[I", true)
  | 6 => ("RestedArms$Board", "settings", "[I", true)
  | 7 => ("RestedArms$Board", "changes", "I", false)
  | 8 => ("RestedArms$Board", "last", "I", false)
  | 9 => ("RestedArms$Board", "brought", "J", false)
  | 10 => ("RestedArms$Board", "weight", "J", false)
  | _ => ("RestedArms$Board", "row", "J", false)
def tyX0 : Nat → FieldType := fun k => match k with
  | 0 => .array .int
  | 1 => .array .int
  | 2 => .array .int
  | 3 => .array .int
  | 4 => .array .int
  | 5 => .array .int
  | 6 => .array .int
  | 7 => .int
  | 8 => .int
  | 9 => .long
  | 10 => .long
  | _ => .long
abbrev wsX00 : List Cond := u_ws RX0 TX0 12
theorem nmX0 : ∀ a, a < 12 → ∀ b, b < 12 → a ≠ b → (TX0 a).2.1 ≠ (TX0 b).2.1 := by decide +kernel
theorem tyX0_ok : ∀ k, k < 12 → parseFieldDescriptor (TX0 k).2.2.1 = some (tyX0 k) := by decide +kernel
abbrev cX0_init : ByteArray := prog_2_method_1_code
def yX0_init : MethodName := ⟨RX0, "<init>", "()V"⟩
abbrev cX0_copy : ByteArray := prog_2_method_2_code
def yX0_copy : MethodName := ⟨RX0, "copy", "(LRestedArms$Board;)V"⟩
abbrev cX0_beginAnew : ByteArray := prog_2_method_3_code
def yX0_beginAnew : MethodName := ⟨RX0, "beginAnew", "(J)V"⟩
abbrev cX0_allPulls : ByteArray := prog_2_method_4_code
def yX0_allPulls : MethodName := ⟨RX0, "allPulls", "()I"⟩
abbrev cX0_wouldChange : ByteArray := prog_2_method_5_code
def yX0_wouldChange : MethodName := ⟨RX0, "wouldChange", "(I)Z"⟩
abbrev cX0_costOf : ByteArray := prog_2_method_6_code
def yX0_costOf : MethodName := ⟨RX0, "costOf", "(II)J"⟩
abbrev cX0_pullOnce : ByteArray := prog_2_method_7_code
def yX0_pullOnce : MethodName := ⟨RX0, "pullOnce", "(I)V"⟩
abbrev cX0_goOn : ByteArray := prog_2_method_8_code
def yX0_goOn : MethodName := ⟨RX0, "goOn", "(I)V"⟩
def RX1 : String := "RestedArms$History"
def TX1 : u_T := fun k => match k with
  | 0 => ("RestedArms$History", "saved", "[LRestedArms$Board;", true)
  | _ => ("RestedArms$History", "count", "I", false)
def tyX1 : Nat → FieldType := fun k => match k with
  | 0 => .array (.object "RestedArms$Board")
  | _ => .int
abbrev wsX10 : List Cond := u_ws RX1 TX1 2
theorem nmX1 : ∀ a, a < 2 → ∀ b, b < 2 → a ≠ b → (TX1 a).2.1 ≠ (TX1 b).2.1 := by decide +kernel
theorem tyX1_ok : ∀ k, k < 2 → parseFieldDescriptor (TX1 k).2.2.1 = some (tyX1 k) := by decide +kernel
abbrev cX1_init : ByteArray := prog_3_method_1_code
def yX1_init : MethodName := ⟨RX1, "<init>", "()V"⟩
abbrev cX1_keep : ByteArray := prog_3_method_2_code
def yX1_keep : MethodName := ⟨RX1, "keep", "(LRestedArms$Board;)V"⟩
abbrev cX1_bringBack : ByteArray := prog_3_method_3_code
def yX1_bringBack : MethodName := ⟨RX1, "bringBack", "(LRestedArms$Board;)V"⟩
abbrev cX1_moveOldestBehind : ByteArray := prog_3_method_4_code
def yX1_moveOldestBehind : MethodName := ⟨RX1, "moveOldestBehind", "()V"⟩
abbrev cX1_boardAt : ByteArray := prog_3_method_5_code
def yX1_boardAt : MethodName := ⟨RX1, "boardAt", "(I)LRestedArms$Board;"⟩
def RX2 : String := "RestedArms$Indices"
def TX2 : u_T := fun k => match k with
  | 0 => ("RestedArms$Indices", "table", "[J", true)
  | 1 => ("RestedArms$Indices", "fresh", "[Z", true)
  | 2 => ("RestedArms$Indices", "values", "[J", true)
  | _ => ("RestedArms$Indices", "own", "[J", true)
def tyX2 : Nat → FieldType := fun k => match k with
  | 0 => .array .long
  | 1 => .array .boolean
  | 2 => .array .long
  | _ => .array .long
abbrev wsX20 : List Cond := u_ws RX2 TX2 4
theorem nmX2 : ∀ a, a < 4 → ∀ b, b < 4 → a ≠ b → (TX2 a).2.1 ≠ (TX2 b).2.1 := by decide +kernel
theorem tyX2_ok : ∀ k, k < 4 → parseFieldDescriptor (TX2 k).2.2.1 = some (tyX2 k) := by decide +kernel
abbrev cX2_init : ByteArray := prog_4_method_1_code
def yX2_init : MethodName := ⟨RX2, "<init>", "()V"⟩
abbrev cX2_forgetArm : ByteArray := prog_4_method_2_code
def yX2_forgetArm : MethodName := ⟨RX2, "forgetArm", "(I)V"⟩
abbrev cX2_forgetAll : ByteArray := prog_4_method_3_code
def yX2_forgetAll : MethodName := ⟨RX2, "forgetAll", "()V"⟩
abbrev cX2_refresh : ByteArray := prog_4_method_4_code
def yX2_refresh : MethodName := ⟨RX2, "refresh", "(LRestedArms$Board;)V"⟩
abbrev cX2_find : ByteArray := prog_4_method_5_code
def yX2_find : MethodName := ⟨RX2, "find", "(LRestedArms$Board;II)J"⟩
abbrev cX2_leastRounds : ByteArray := prog_4_method_6_code
def yX2_leastRounds : MethodName := ⟨RX2, "leastRounds", "(LRestedArms$Board;IIJ)I"⟩
abbrev cX2_clearValues : ByteArray := prog_4_method_7_code
def yX2_clearValues : MethodName := ⟨RX2, "clearValues", "()V"⟩
abbrev cX2_turn : ByteArray := prog_4_method_8_code
def yX2_turn : MethodName := ⟨RX2, "turn", "(LRestedArms$Board;II)V"⟩
abbrev cX2_indexNow : ByteArray := prog_4_method_9_code
def yX2_indexNow : MethodName := ⟨RX2, "indexNow", "(LRestedArms$Board;I)J"⟩
def RX3 : String := "RestedArms$Text"
def TX3 : u_T := fun k => match k with
  | 0 => ("RestedArms$Text", "codes", "[I", true)
  | _ => ("RestedArms$Text", "length", "I", false)
def tyX3 : Nat → FieldType := fun k => match k with
  | 0 => .array .int
  | _ => .int
abbrev wsX30 : List Cond := u_ws RX3 TX3 2
theorem nmX3 : ∀ a, a < 2 → ∀ b, b < 2 → a ≠ b → (TX3 a).2.1 ≠ (TX3 b).2.1 := by decide +kernel
theorem tyX3_ok : ∀ k, k < 2 → parseFieldDescriptor (TX3 k).2.2.1 = some (tyX3 k) := by decide +kernel
abbrev cX3_init : ByteArray := prog_5_method_1_code
def yX3_init : MethodName := ⟨RX3, "<init>", "()V"⟩
abbrev cX3_errorPlace : ByteArray := prog_5_method_2_code
def yX3_errorPlace : MethodName := ⟨RX3, "errorPlace", "()I"⟩
abbrev cX3_isWhole : ByteArray := prog_5_method_3_code
def yX3_isWhole : MethodName := ⟨RX3, "isWhole", "()Z"⟩
abbrev cX3_moveInto : ByteArray := prog_5_method_4_code
def yX3_moveInto : MethodName := ⟨RX3, "moveInto", "(LRestedArms$Board;)I"⟩
abbrev cX3_nextStage : ByteArray := prog_5_method_5_code
def yX3_nextStage : MethodName := ⟨RX3, "nextStage", "(II)I"⟩
abbrev cX3_isStateLetter : ByteArray := prog_5_method_6_code
def yX3_isStateLetter : MethodName := ⟨RX3, "isStateLetter", "(I)Z"⟩
abbrev cX3_firstDigit : ByteArray := prog_5_method_7_code
def yX3_firstDigit : MethodName := ⟨RX3, "firstDigit", "(I)I"⟩
abbrev cX3_behindGift : ByteArray := prog_5_method_8_code
def yX3_behindGift : MethodName := ⟨RX3, "behindGift", "(I)I"⟩
def RX4 : String := "RestedArms"
def TX4 : u_T := fun k => match k with
  | 0 => ("RestedArms", "now", "LRestedArms$Board;", true)
  | 1 => ("RestedArms", "trial", "LRestedArms$Board;", true)
  | 2 => ("RestedArms", "history", "LRestedArms$History;", true)
  | 3 => ("RestedArms", "indices", "LRestedArms$Indices;", true)
  | 4 => ("RestedArms", "text", "LRestedArms$Text;", true)
  | _ => ("RestedArms", "scores", "[J", true)
def tyX4 : Nat → FieldType := fun k => match k with
  | 0 => .object "RestedArms$Board"
  | 1 => .object "RestedArms$Board"
  | 2 => .object "RestedArms$History"
  | 3 => .object "RestedArms$Indices"
  | 4 => .object "RestedArms$Text"
  | _ => .array .long
abbrev wsX40 : List Cond := u_ws RX4 TX4 6
theorem nmX4 : ∀ a, a < 6 → ∀ b, b < 6 → a ≠ b → (TX4 a).2.1 ≠ (TX4 b).2.1 := by decide +kernel
theorem tyX4_ok : ∀ k, k < 6 → parseFieldDescriptor (TX4 k).2.2.1 = some (tyX4 k) := by decide +kernel
abbrev cX4_init : ByteArray := prog_1_method_1_code
def yX4_init : MethodName := ⟨RX4, "<init>", "()V"⟩
abbrev cX4_gift : ByteArray := prog_1_method_2_code
def yX4_gift : MethodName := ⟨RX4, "gift", "(III)I"⟩
abbrev cX4_way : ByteArray := prog_1_method_3_code
def yX4_way : MethodName := ⟨RX4, "way", "(IIIII)I"⟩
abbrev cX4_put : ByteArray := prog_1_method_4_code
def yX4_put : MethodName := ⟨RX4, "put", "(II)I"⟩
abbrev cX4_set : ByteArray := prog_1_method_5_code
def yX4_set : MethodName := ⟨RX4, "set", "(II)I"⟩
abbrev cX4_pull : ByteArray := prog_1_method_6_code
def yX4_pull : MethodName := ⟨RX4, "pull", "(I)I"⟩
abbrev cX4_play : ByteArray := prog_1_method_7_code
def yX4_play : MethodName := ⟨RX4, "play", "(II)I"⟩
abbrev cX4_begin : ByteArray := prog_1_method_8_code
def yX4_begin : MethodName := ⟨RX4, "begin", "(J)I"⟩
abbrev cX4_append : ByteArray := prog_1_method_9_code
def yX4_append : MethodName := ⟨RX4, "append", "(I)I"⟩
abbrev cX4_clearBuffer : ByteArray := prog_1_method_10_code
def yX4_clearBuffer : MethodName := ⟨RX4, "clearBuffer", "()I"⟩
abbrev cX4_firstError : ByteArray := prog_1_method_11_code
def yX4_firstError : MethodName := ⟨RX4, "firstError", "()I"⟩
abbrev cX4_read : ByteArray := prog_1_method_12_code
def yX4_read : MethodName := ⟨RX4, "read", "()I"⟩
abbrev cX4_undo : ByteArray := prog_1_method_13_code
def yX4_undo : MethodName := ⟨RX4, "undo", "()I"⟩
abbrev cX4_stateOf : ByteArray := prog_1_method_14_code
def yX4_stateOf : MethodName := ⟨RX4, "stateOf", "(III)I"⟩
abbrev cX4_index : ByteArray := prog_1_method_15_code
def yX4_index : MethodName := ⟨RX4, "index", "(II)J"⟩
abbrev cX4_arm : ByteArray := prog_1_method_16_code
def yX4_arm : MethodName := ⟨RX4, "arm", "(II)I"⟩
abbrev cX4_count : ByteArray := prog_1_method_17_code
def yX4_count : MethodName := ⟨RX4, "count", "(I)I"⟩
abbrev cX4_sum : ByteArray := prog_1_method_18_code
def yX4_sum : MethodName := ⟨RX4, "sum", "(I)J"⟩
abbrev cX4_setting : ByteArray := prog_1_method_19_code
def yX4_setting : MethodName := ⟨RX4, "setting", "(I)I"⟩
abbrev cX4_choice : ByteArray := prog_1_method_20_code
def yX4_choice : MethodName := ⟨RX4, "choice", "(I)I"⟩
abbrev cX4_ifPlayed : ByteArray := prog_1_method_21_code
def yX4_ifPlayed : MethodName := ⟨RX4, "ifPlayed", "(II)J"⟩
abbrev cX4_bestRule : ByteArray := prog_1_method_22_code
def yX4_bestRule : MethodName := ⟨RX4, "bestRule", "(I)I"⟩
abbrev cX4_giftFor : ByteArray := prog_1_method_23_code
def yX4_giftFor : MethodName := ⟨RX4, "giftFor", "(II)I"⟩
abbrev cX4_evenness : ByteArray := prog_1_method_24_code
def yX4_evenness : MethodName := ⟨RX4, "evenness", "()D"⟩
abbrev cX4_digest : ByteArray := prog_1_method_25_code
def yX4_digest : MethodName := ⟨RX4, "digest", "()J"⟩
abbrev cX4_hashOfArm : ByteArray := prog_1_method_26_code
def yX4_hashOfArm : MethodName := ⟨RX4, "hashOfArm", "(JI)J"⟩
abbrev cX4_bitsOf : ByteArray := prog_1_method_27_code
def yX4_bitsOf : MethodName := ⟨RX4, "bitsOf", "(D)J"⟩
abbrev cX4_needArm : ByteArray := prog_1_method_28_code
def yX4_needArm : MethodName := ⟨RX4, "needArm", "(I)V"⟩
abbrev cX4_needState : ByteArray := prog_1_method_29_code
def yX4_needState : MethodName := ⟨RX4, "needState", "(II)V"⟩
abbrev cX4_needSetting : ByteArray := prog_1_method_30_code
def yX4_needSetting : MethodName := ⟨RX4, "needSetting", "(I)V"⟩
abbrev cX4_needRule : ByteArray := prog_1_method_31_code
def yX4_needRule : MethodName := ⟨RX4, "needRule", "(I)V"⟩
abbrev cX4_needPulls : ByteArray := prog_1_method_32_code
def yX4_needPulls : MethodName := ⟨RX4, "needPulls", "(I)V"⟩
abbrev cX4_isWithin : ByteArray := prog_1_method_33_code
def yX4_isWithin : MethodName := ⟨RX4, "isWithin", "(III)Z"⟩
abbrev cX4_slotOf : ByteArray := prog_1_method_34_code
def yX4_slotOf : MethodName := ⟨RX4, "slotOf", "(II)I"⟩
abbrev cX4_at : ByteArray := prog_1_method_35_code
def yX4_at : MethodName := ⟨RX4, "at", "([II)I"⟩
abbrev cX4_at_ : ByteArray := prog_1_method_36_code
def yX4_at_ : MethodName := ⟨RX4, "at", "([JI)J"⟩
abbrev cX4_store : ByteArray := prog_1_method_37_code
def yX4_store : MethodName := ⟨RX4, "store", "([III)V"⟩
abbrev cX4_store_ : ByteArray := prog_1_method_38_code
def yX4_store_ : MethodName := ⟨RX4, "store", "([JIJ)V"⟩
abbrev cX4_reachedFrom : ByteArray := prog_1_method_39_code
def yX4_reachedFrom : MethodName := ⟨RX4, "reachedFrom", "(II)I"⟩
abbrev cX4_nextOf : ByteArray := prog_1_method_40_code
def yX4_nextOf : MethodName := ⟨RX4, "nextOf", "(I)I"⟩
abbrev cX4_bestState : ByteArray := prog_1_method_41_code
def yX4_bestState : MethodName := ⟨RX4, "bestState", "(I)I"⟩
abbrev cX4_roundsNeeded : ByteArray := prog_1_method_42_code
def yX4_roundsNeeded : MethodName := ⟨RX4, "roundsNeeded", "(I)I"⟩
abbrev cX4_playOn : ByteArray := prog_1_method_43_code
def yX4_playOn : MethodName := ⟨RX4, "playOn", "(LRestedArms$Board;II)V"⟩
abbrev cX4_gain : ByteArray := prog_1_method_44_code
def yX4_gain : MethodName := ⟨RX4, "gain", "(II)J"⟩
abbrev cX4_chosenBy : ByteArray := prog_1_method_45_code
def yX4_chosenBy : MethodName := ⟨RX4, "chosenBy", "(LRestedArms$Board;I)I"⟩
abbrev cX4_scoreAll : ByteArray := prog_1_method_46_code
def yX4_scoreAll : MethodName := ⟨RX4, "scoreAll", "(LRestedArms$Board;I)V"⟩
abbrev cX4_greatestScore : ByteArray := prog_1_method_47_code
def yX4_greatestScore : MethodName := ⟨RX4, "greatestScore", "(I)I"⟩
abbrev cX4_wouldChoose : ByteArray := prog_1_method_48_code
def yX4_wouldChoose : MethodName := ⟨RX4, "wouldChoose", "(III)Z"⟩
def RX5 : String := "RestedArmsModel"
def TX5 : u_T := fun k => match k with
  | 0 => ("RestedArmsModel", "now", "[J", true)
  | 1 => ("RestedArmsModel", "then", "[J", true)
  | 2 => ("RestedArmsModel", "past", "[J", true)
  | 3 => ("RestedArmsModel", "kept", "I", false)
  | 4 => ("RestedArmsModel", "text", "[I", true)
  | 5 => ("RestedArmsModel", "typed", "I", false)
  | 6 => ("RestedArmsModel", "thrown", "I", false)
  | 7 => ("RestedArmsModel", "at", "I", false)
  | 8 => ("RestedArmsModel", "isFault", "Z", false)
  | 9 => ("RestedArmsModel", "told", "[I", true)
  | 10 => ("RestedArmsModel", "tolds", "I", false)
  | 11 => ("RestedArmsModel", "values", "[J", true)
  | _ => ("RestedArmsModel", "owns", "[J", true)
def tyX5 : Nat → FieldType := fun k => match k with
  | 0 => .array .long
  | 1 => .array .long
  | 2 => .array .long
  | 3 => .int
  | 4 => .array .int
  | 5 => .int
  | 6 => .int
  | 7 => .int
  | 8 => .boolean
  | 9 => .array .int
  | 10 => .int
  | 11 => .array .long
  | _ => .array .long
abbrev wsX50 : List Cond := u_ws RX5 TX5 13
theorem nmX5 : ∀ a, a < 13 → ∀ b, b < 13 → a ≠ b → (TX5 a).2.1 ≠ (TX5 b).2.1 := by decide +kernel
theorem tyX5_ok : ∀ k, k < 13 → parseFieldDescriptor (TX5 k).2.2.1 = some (tyX5 k) := by decide +kernel
abbrev cX5_init : ByteArray := prog_7_method_1_code
def yX5_init : MethodName := ⟨RX5, "<init>", "()V"⟩
abbrev cX5_thrown : ByteArray := prog_7_method_2_code
def yX5_thrown : MethodName := ⟨RX5, "thrown", "()I"⟩
abbrev cX5_fails : ByteArray := prog_7_method_3_code
def yX5_fails : MethodName := ⟨RX5, "fails", "(I)I"⟩
abbrev cX5_in : ByteArray := prog_7_method_4_code
def yX5_in : MethodName := ⟨RX5, "in", "(JII)Z"⟩
abbrev cX5_isArm : ByteArray := prog_7_method_5_code
def yX5_isArm : MethodName := ⟨RX5, "isArm", "(I)Z"⟩
abbrev cX5_isState : ByteArray := prog_7_method_6_code
def yX5_isState : MethodName := ⟨RX5, "isState", "(I)Z"⟩
abbrev cX5_of : ByteArray := prog_7_method_7_code
def yX5_of : MethodName := ⟨RX5, "of", "([JIII)I"⟩
abbrev cX5_stands : ByteArray := prog_7_method_8_code
def yX5_stands : MethodName := ⟨RX5, "stands", "([JI)I"⟩
abbrev cX5_saves : ByteArray := prog_7_method_9_code
def yX5_saves : MethodName := ⟨RX5, "saves", "()V"⟩
abbrev cX5_undo : ByteArray := prog_7_method_10_code
def yX5_undo : MethodName := ⟨RX5, "undo", "()I"⟩
abbrev cX5_tries : ByteArray := prog_7_method_11_code
def yX5_tries : MethodName := ⟨RX5, "tries", "()V"⟩
abbrev cX5_expected : ByteArray := prog_7_method_12_code
def yX5_expected : MethodName := ⟨RX5, "expected", "([JII)J"⟩
abbrev cX5_round : ByteArray := prog_7_method_13_code
def yX5_round : MethodName := ⟨RX5, "round", "([JII)V"⟩
abbrev cX5_begins : ByteArray := prog_7_method_14_code
def yX5_begins : MethodName := ⟨RX5, "begins", "()V"⟩
abbrev cX5_indexBy : ByteArray := prog_7_method_15_code
def yX5_indexBy : MethodName := ⟨RX5, "indexBy", "([JI)J"⟩
abbrev cX5_indexOf : ByteArray := prog_7_method_16_code
def yX5_indexOf : MethodName := ⟨RX5, "indexOf", "([JII)J"⟩
abbrev cX5_rounds : ByteArray := prog_7_method_17_code
def yX5_rounds : MethodName := ⟨RX5, "rounds", "(I)I"⟩
abbrev cX5_greatest : ByteArray := prog_7_method_18_code
def yX5_greatest : MethodName := ⟨RX5, "greatest", "(I)I"⟩
abbrev cX5_draws : ByteArray := prog_7_method_19_code
def yX5_draws : MethodName := ⟨RX5, "draws", "([J)I"⟩
abbrev cX5_goesOn : ByteArray := prog_7_method_20_code
def yX5_goesOn : MethodName := ⟨RX5, "goesOn", "([JI)V"⟩
abbrev cX5_isOther : ByteArray := prog_7_method_21_code
def yX5_isOther : MethodName := ⟨RX5, "isOther", "([JI)Z"⟩
abbrev cX5_down : ByteArray := prog_7_method_22_code
def yX5_down : MethodName := ⟨RX5, "down", "(JJ)J"⟩
abbrev cX5_pulls : ByteArray := prog_7_method_23_code
def yX5_pulls : MethodName := ⟨RX5, "pulls", "([JI)V"⟩
abbrev cX5_worth : ByteArray := prog_7_method_24_code
def yX5_worth : MethodName := ⟨RX5, "worth", "([JII)J"⟩
abbrev cX5_chosen : ByteArray := prog_7_method_25_code
def yX5_chosen : MethodName := ⟨RX5, "chosen", "([JI)I"⟩
abbrev cX5_plays : ByteArray := prog_7_method_26_code
def yX5_plays : MethodName := ⟨RX5, "plays", "([JII)V"⟩
abbrev cX5_changes : ByteArray := prog_7_method_27_code
def yX5_changes : MethodName := ⟨RX5, "changes", "(II)I"⟩
abbrev cX5_gift : ByteArray := prog_7_method_28_code
def yX5_gift : MethodName := ⟨RX5, "gift", "(III)I"⟩
abbrev cX5_ways : ByteArray := prog_7_method_29_code
def yX5_ways : MethodName := ⟨RX5, "ways", "(IIIII)I"⟩
abbrev cX5_way : ByteArray := prog_7_method_30_code
def yX5_way : MethodName := ⟨RX5, "way", "(IIIII)I"⟩
abbrev cX5_put : ByteArray := prog_7_method_31_code
def yX5_put : MethodName := ⟨RX5, "put", "(II)I"⟩
abbrev cX5_isFor : ByteArray := prog_7_method_32_code
def yX5_isFor : MethodName := ⟨RX5, "isFor", "(II)Z"⟩
abbrev cX5_set : ByteArray := prog_7_method_33_code
def yX5_set : MethodName := ⟨RX5, "set", "(II)I"⟩
abbrev cX5_pull : ByteArray := prog_7_method_34_code
def yX5_pull : MethodName := ⟨RX5, "pull", "(I)I"⟩
abbrev cX5_isPlay : ByteArray := prog_7_method_35_code
def yX5_isPlay : MethodName := ⟨RX5, "isPlay", "(II)Z"⟩
abbrev cX5_play : ByteArray := prog_7_method_36_code
def yX5_play : MethodName := ⟨RX5, "play", "(II)I"⟩
abbrev cX5_begin : ByteArray := prog_7_method_37_code
def yX5_begin : MethodName := ⟨RX5, "begin", "(J)I"⟩
abbrev cX5_append : ByteArray := prog_7_method_38_code
def yX5_append : MethodName := ⟨RX5, "append", "(I)I"⟩
abbrev cX5_clearBuffer : ByteArray := prog_7_method_39_code
def yX5_clearBuffer : MethodName := ⟨RX5, "clearBuffer", "()I"⟩
abbrev cX5_isAt : ByteArray := prog_7_method_40_code
def yX5_isAt : MethodName := ⟨RX5, "isAt", "(II)Z"⟩
abbrev cX5_stops : ByteArray := prog_7_method_41_code
def yX5_stops : MethodName := ⟨RX5, "stops", "()Z"⟩
abbrev cX5_isSign : ByteArray := prog_7_method_42_code
def yX5_isSign : MethodName := ⟨RX5, "isSign", "(III)Z"⟩
abbrev cX5_isGift : ByteArray := prog_7_method_43_code
def yX5_isGift : MethodName := ⟨RX5, "isGift", "()Z"⟩
abbrev cX5_isPart : ByteArray := prog_7_method_44_code
def yX5_isPart : MethodName := ⟨RX5, "isPart", "()Z"⟩
abbrev cX5_isText : ByteArray := prog_7_method_45_code
def yX5_isText : MethodName := ⟨RX5, "isText", "()Z"⟩
abbrev cX5_firstError : ByteArray := prog_7_method_46_code
def yX5_firstError : MethodName := ⟨RX5, "firstError", "()I"⟩
abbrev cX5_read : ByteArray := prog_7_method_47_code
def yX5_read : MethodName := ⟨RX5, "read", "()I"⟩
abbrev cX5_reached : ByteArray := prog_7_method_48_code
def yX5_reached : MethodName := ⟨RX5, "reached", "(II)I"⟩
abbrev cX5_ofState : ByteArray := prog_7_method_49_code
def yX5_ofState : MethodName := ⟨RX5, "ofState", "(III)I"⟩
abbrev cX5_stateOf : ByteArray := prog_7_method_50_code
def yX5_stateOf : MethodName := ⟨RX5, "stateOf", "(III)I"⟩
abbrev cX5_index : ByteArray := prog_7_method_51_code
def yX5_index : MethodName := ⟨RX5, "index", "(II)J"⟩
abbrev cX5_ofArm : ByteArray := prog_7_method_52_code
def yX5_ofArm : MethodName := ⟨RX5, "ofArm", "(II)I"⟩
abbrev cX5_arm : ByteArray := prog_7_method_53_code
def yX5_arm : MethodName := ⟨RX5, "arm", "(II)I"⟩
abbrev cX5_counted : ByteArray := prog_7_method_54_code
def yX5_counted : MethodName := ⟨RX5, "counted", "(I)I"⟩
abbrev cX5_count : ByteArray := prog_7_method_55_code
def yX5_count : MethodName := ⟨RX5, "count", "(I)I"⟩
abbrev cX5_sum : ByteArray := prog_7_method_56_code
def yX5_sum : MethodName := ⟨RX5, "sum", "(I)J"⟩
abbrev cX5_setting : ByteArray := prog_7_method_57_code
def yX5_setting : MethodName := ⟨RX5, "setting", "(I)I"⟩
abbrev cX5_choice : ByteArray := prog_7_method_58_code
def yX5_choice : MethodName := ⟨RX5, "choice", "(I)I"⟩
abbrev cX5_byPlay : ByteArray := prog_7_method_59_code
def yX5_byPlay : MethodName := ⟨RX5, "byPlay", "(II)J"⟩
abbrev cX5_ifPlayed : ByteArray := prog_7_method_60_code
def yX5_ifPlayed : MethodName := ⟨RX5, "ifPlayed", "(II)J"⟩
abbrev cX5_best : ByteArray := prog_7_method_61_code
def yX5_best : MethodName := ⟨RX5, "best", "(I)I"⟩
abbrev cX5_bestRule : ByteArray := prog_7_method_62_code
def yX5_bestRule : MethodName := ⟨RX5, "bestRule", "(I)I"⟩
abbrev cX5_least : ByteArray := prog_7_method_63_code
def yX5_least : MethodName := ⟨RX5, "least", "(II)I"⟩
abbrev cX5_giftFor : ByteArray := prog_7_method_64_code
def yX5_giftFor : MethodName := ⟨RX5, "giftFor", "(II)I"⟩
abbrev cX5_even : ByteArray := prog_7_method_65_code
def yX5_even : MethodName := ⟨RX5, "even", "()D"⟩
abbrev cX5_evenness : ByteArray := prog_7_method_66_code
def yX5_evenness : MethodName := ⟨RX5, "evenness", "()D"⟩
abbrev cX5_digest : ByteArray := prog_7_method_67_code
def yX5_digest : MethodName := ⟨RX5, "digest", "()J"⟩
def RJxe99ae : String := "java/lang/Double"
def TJxe99ae : u_T := fun k => match k with
  | _ => ("", "", "", false)
def tyJxe99ae : Nat → FieldType := fun k => match k with
  | _ => .int
abbrev wsJxe99ae0 : List Cond := u_ws RJxe99ae TJxe99ae 0
theorem nmJxe99ae : ∀ a, a < 0 → ∀ b, b < 0 → a ≠ b → (TJxe99ae a).2.1 ≠ (TJxe99ae b).2.1 := by decide +kernel
theorem tyJxe99ae_ok : ∀ k, k < 0 → parseFieldDescriptor (TJxe99ae k).2.2.1 = some (tyJxe99ae k) := by decide +kernel
abbrev cJxe99ae_isNaN_b9ae7 : ByteArray := prog_8_method_6_code
def yJxe99ae_isNaN_b9ae7 : MethodName := ⟨RJxe99ae, "isNaN", "(D)Z"⟩
abbrev cJxe99ae_doubleToLongBits_ccdee : ByteArray := prog_8_method_23_code
def yJxe99ae_doubleToLongBits_ccdee : MethodName := ⟨RJxe99ae, "doubleToLongBits", "(D)J"⟩
def RJ9 : String := "java/lang/Math"
def TJ9 : u_T := fun k => match k with
  | _ => ("", "", "", false)
def tyJ9 : Nat → FieldType := fun k => match k with
  | _ => .int
abbrev wsJ90 : List Cond := u_ws RJ9 TJ9 0
theorem nmJ9 : ∀ a, a < 0 → ∀ b, b < 0 → a ≠ b → (TJ9 a).2.1 ≠ (TJ9 b).2.1 := by decide +kernel
theorem tyJ9_ok : ∀ k, k < 0 → parseFieldDescriptor (TJ9 k).2.2.1 = some (tyJ9 k) := by decide +kernel
abbrev cJ9_floorDiv_f86c9 : ByteArray := prog_13_method_49_code
def yJ9_floorDiv_f86c9 : MethodName := ⟨RJ9, "floorDiv", "(JJ)J"⟩
abbrev cJ9_max_7cf53 : ByteArray := prog_13_method_65_code
def yJ9_max_7cf53 : MethodName := ⟨RJ9, "max", "(II)I"⟩
abbrev cJ9_max_f86c9 : ByteArray := prog_13_method_66_code
def yJ9_max_f86c9 : MethodName := ⟨RJ9, "max", "(JJ)J"⟩
abbrev cJ9_min_7cf53 : ByteArray := prog_13_method_69_code
def yJ9_min_7cf53 : MethodName := ⟨RJ9, "min", "(II)I"⟩
def RJ0 : String := "java/lang/String"
def TJ0 : u_T := fun k => match k with
  | _ => ("", "", "", false)
def tyJ0 : Nat → FieldType := fun k => match k with
  | _ => .int
abbrev wsJ00 : List Cond := u_ws RJ0 TJ0 0
theorem nmJ0 : ∀ a, a < 0 → ∀ b, b < 0 → a ≠ b → (TJ0 a).2.1 ≠ (TJ0 b).2.1 := by decide +kernel
theorem tyJ0_ok : ∀ k, k < 0 → parseFieldDescriptor (TJ0 k).2.2.1 = some (tyJ0 k) := by decide +kernel
def RJ10 : String := "java/lang/System"
def TJ10 : u_T := fun k => match k with
  | _ => ("", "", "", false)
def tyJ10 : Nat → FieldType := fun k => match k with
  | _ => .int
abbrev wsJ100 : List Cond := u_ws RJ10 TJ10 0
theorem nmJ10 : ∀ a, a < 0 → ∀ b, b < 0 → a ≠ b → (TJ10 a).2.1 ≠ (TJ10 b).2.1 := by decide +kernel
theorem tyJ10_ok : ∀ k, k < 0 → parseFieldDescriptor (TJ10 k).2.2.1 = some (tyJ10 k) := by decide +kernel
def RL : String := "RestedArmsLaw"
abbrev cL_gift : ByteArray := method_3_code
def yL_gift : MethodName := ⟨RL, "gift", "(LRestedArms;III[J)I"⟩
abbrev cL_way : ByteArray := method_4_code
def yL_way : MethodName := ⟨RL, "way", "(LRestedArms;IIIII[J)I"⟩
abbrev cL_put : ByteArray := method_5_code
def yL_put : MethodName := ⟨RL, "put", "(LRestedArms;II[J)I"⟩
abbrev cL_set : ByteArray := method_6_code
def yL_set : MethodName := ⟨RL, "set", "(LRestedArms;II[J)I"⟩
abbrev cL_pull : ByteArray := method_7_code
def yL_pull : MethodName := ⟨RL, "pull", "(LRestedArms;I[J)I"⟩
abbrev cL_play : ByteArray := method_8_code
def yL_play : MethodName := ⟨RL, "play", "(LRestedArms;II[J)I"⟩
abbrev cL_append : ByteArray := method_9_code
def yL_append : MethodName := ⟨RL, "append", "(LRestedArms;I[J)I"⟩
abbrev cL_read : ByteArray := method_10_code
def yL_read : MethodName := ⟨RL, "read", "(LRestedArms;[J)I"⟩
abbrev cL_undo : ByteArray := method_11_code
def yL_undo : MethodName := ⟨RL, "undo", "(LRestedArms;[J)I"⟩
abbrev cL_stateOf : ByteArray := method_12_code
def yL_stateOf : MethodName := ⟨RL, "stateOf", "(LRestedArms;III[J)I"⟩
abbrev cL_index : ByteArray := method_13_code
def yL_index : MethodName := ⟨RL, "index", "(LRestedArms;II[J)I"⟩
abbrev cL_arm : ByteArray := method_14_code
def yL_arm : MethodName := ⟨RL, "arm", "(LRestedArms;II[J)I"⟩
abbrev cL_count : ByteArray := method_15_code
def yL_count : MethodName := ⟨RL, "count", "(LRestedArms;I[J)I"⟩
abbrev cL_sum : ByteArray := method_16_code
def yL_sum : MethodName := ⟨RL, "sum", "(LRestedArms;I[J)I"⟩
abbrev cL_setting : ByteArray := method_17_code
def yL_setting : MethodName := ⟨RL, "setting", "(LRestedArms;I[J)I"⟩
abbrev cL_choice : ByteArray := method_18_code
def yL_choice : MethodName := ⟨RL, "choice", "(LRestedArms;I[J)I"⟩
abbrev cL_ifPlayed : ByteArray := method_19_code
def yL_ifPlayed : MethodName := ⟨RL, "ifPlayed", "(LRestedArms;II[J)I"⟩
abbrev cL_bestRule : ByteArray := method_20_code
def yL_bestRule : MethodName := ⟨RL, "bestRule", "(LRestedArms;I[J)I"⟩
abbrev cL_giftFor : ByteArray := method_21_code
def yL_giftFor : MethodName := ⟨RL, "giftFor", "(LRestedArms;II[J)I"⟩
abbrev cL_law : ByteArray := code
def yL_law : MethodName := ⟨RL, "law", "([I)Z"⟩
def wsX0_init : List Cond := .code yX0_init cX0_init 2 none :: ([.methodLink RX0 3 objectInit, .instanceMethod objectInit, .code objectInit ⟨#[0xb1]⟩ 1 none, .arrayClass .int, .fieldLink RX0 9 "RestedArms$Board" "gifts" "[I", .fieldLink RX0 15 "RestedArms$Board" "goods" "[I", .fieldLink RX0 18 "RestedArms$Board" "bads" "[I", .fieldLink RX0 21 "RestedArms$Board" "chances" "[I", .fieldLink RX0 24 "RestedArms$Board" "places" "[I", .fieldLink RX0 27 "RestedArms$Board" "pulls" "[I", .fieldLink RX0 30 "RestedArms$Board" "settings" "[I", .fieldLink RX0 33 "RestedArms$Board" "last" "I", .constantLong RX0 37 (1000000), .fieldLink RX0 39 "RestedArms$Board" "weight" "J", .fieldLink RX0 43 "RestedArms$Board" "row" "J"] ++ wsX00)
def wsX0_copy : List Cond := .code yX0_copy cX0_copy 2 none :: ([.fieldLink RX0 9 "RestedArms$Board" "gifts" "[I", .methodLink RX0 46 arraycopyName, .native arraycopyName, .static arraycopyName, .initialized "java/lang/System", .fieldLink RX0 15 "RestedArms$Board" "goods" "[I", .fieldLink RX0 18 "RestedArms$Board" "bads" "[I", .fieldLink RX0 21 "RestedArms$Board" "chances" "[I", .fieldLink RX0 24 "RestedArms$Board" "places" "[I", .fieldLink RX0 27 "RestedArms$Board" "pulls" "[I", .fieldLink RX0 30 "RestedArms$Board" "settings" "[I", .fieldLink RX0 52 "RestedArms$Board" "changes" "I", .fieldLink RX0 33 "RestedArms$Board" "last" "I", .fieldLink RX0 55 "RestedArms$Board" "brought" "J", .fieldLink RX0 39 "RestedArms$Board" "weight" "J", .fieldLink RX0 43 "RestedArms$Board" "row" "J"] ++ wsX00)
def wsX4_store : List Cond := .code yX4_store cX4_store 3 none :: ([])
def wsX0_beginAnew : List Cond := .code yX0_beginAnew cX0_beginAnew 4 none :: ([.fieldLink RX0 24 "RestedArms$Board" "places" "[I", .fieldLink RX0 27 "RestedArms$Board" "pulls" "[I", .fieldLink RX0 52 "RestedArms$Board" "changes" "I", .fieldLink RX0 33 "RestedArms$Board" "last" "I", .fieldLink RX0 55 "RestedArms$Board" "brought" "J", .constantLong RX0 37 (1000000), .fieldLink RX0 39 "RestedArms$Board" "weight" "J", .fieldLink RX0 43 "RestedArms$Board" "row" "J", .static yX4_store, .initialized RX4, .code yX4_store cX4_store 3 none] ++ wsX00)
def wsX4_at : List Cond := .code yX4_at cX4_at 2 (some .int) :: ([])
def wsX0_allPulls : List Cond := .code yX0_allPulls cX0_allPulls 3 (some .int) :: ([.fieldLink RX0 27 "RestedArms$Board" "pulls" "[I", .static yX4_at, .initialized RX4, .code yX4_at cX4_at 2 (some .int)] ++ wsX00)
def wsX0_wouldChange : List Cond := .code yX0_wouldChange cX0_wouldChange 2 (some .boolean) :: ([.fieldLink RX0 33 "RestedArms$Board" "last" "I"] ++ wsX00)
def wsX0_costOf : List Cond := .code yX0_costOf cX0_costOf 5 (some .long) :: ([.fieldLink RX0 30 "RestedArms$Board" "settings" "[I", .constantLong RX0 70 (10), .methodLink RX0 66 yX0_wouldChange, .instanceMethod yX0_wouldChange, .selects RX0 yX0_wouldChange yX0_wouldChange, .initialized RX0, .code yX0_wouldChange cX0_wouldChange 2 (some .boolean), .fieldLink RX0 33 "RestedArms$Board" "last" "I", .static yX4_at, .initialized RX4, .code yX4_at cX4_at 2 (some .int)] ++ wsX00)
def wsX4_slotOf : List Cond := .code yX4_slotOf cX4_slotOf 2 (some .int) :: ([])
def wsJ9_floorDiv_f86c9 : List Cond := .code yJ9_floorDiv_f86c9 cJ9_floorDiv_f86c9 6 (some .long) :: ([])
def wsX0_goOn : List Cond := .code yX0_goOn cX0_goOn 4 none :: ([.fieldLink RX0 43 "RestedArms$Board" "row" "J", .constantLong RX0 90 (6364136223846793005), .constantLong RX0 92 (1442695040888963407), .fieldLink RX0 24 "RestedArms$Board" "places" "[I", .fieldLink RX0 21 "RestedArms$Board" "chances" "[I", .fieldLink RX0 15 "RestedArms$Board" "goods" "[I", .fieldLink RX0 18 "RestedArms$Board" "bads" "[I", .static yX4_at, .initialized RX4, .code yX4_at cX4_at 2 (some .int), .static yX4_slotOf, .code yX4_slotOf cX4_slotOf 2 (some .int), .static yX4_store, .code yX4_store cX4_store 3 none] ++ wsX00)
def wsX0_pullOnce_r1 : List Cond := [Cond.constantLong RX0 72 (1000), Cond.fieldLink RX0 9 "RestedArms$Board" "gifts" "[I", Cond.fieldLink RX0 24 "RestedArms$Board" "places" "[I", Cond.fieldLink RX0 30 "RestedArms$Board" "settings" "[I", Cond.fieldLink RX0 52 "RestedArms$Board" "changes" "I", Cond.fieldLink RX0 55 "RestedArms$Board" "brought" "J", Cond.fieldLink RX0 39 "RestedArms$Board" "weight" "J", Cond.constantLong RX0 37 (1000000), Cond.constantLong RX0 84 (100), Cond.fieldLink RX0 33 "RestedArms$Board" "last" "I", Cond.fieldLink RX0 27 "RestedArms$Board" "pulls" "[I", Cond.static yX4_at, Cond.initialized RX4, Cond.code yX4_at cX4_at 2 (some .int), Cond.static yX4_slotOf, Cond.code yX4_slotOf cX4_slotOf 2 (some .int), Cond.methodLink RX0 66 yX0_wouldChange, Cond.instanceMethod yX0_wouldChange, Cond.selects RX0 yX0_wouldChange yX0_wouldChange, Cond.initialized RX0, Cond.code yX0_wouldChange cX0_wouldChange 2 (some .boolean), Cond.methodLink RX0 78 yJ9_floorDiv_f86c9, Cond.static yJ9_floorDiv_f86c9, Cond.initialized RJ9]
def wsX0_pullOnce_r2 : List Cond := [Cond.code yJ9_floorDiv_f86c9 cJ9_floorDiv_f86c9 6 (some .long), Cond.static yX4_store, Cond.code yX4_store cX4_store 3 none, Cond.methodLink RX0 86 yX0_goOn, Cond.instanceMethod yX0_goOn, Cond.selects RX0 yX0_goOn yX0_goOn, Cond.code yX0_goOn cX0_goOn 4 none, Cond.fieldLink RX0 43 "RestedArms$Board" "row" "J", Cond.constantLong RX0 90 (6364136223846793005), Cond.constantLong RX0 92 (1442695040888963407), Cond.fieldLink RX0 21 "RestedArms$Board" "chances" "[I", Cond.fieldLink RX0 15 "RestedArms$Board" "goods" "[I", Cond.fieldLink RX0 18 "RestedArms$Board" "bads" "[I"]
def wsX0_pullOnce : List Cond := .code yX0_pullOnce cX0_pullOnce 5 none :: ((wsX0_pullOnce_r1 ++ wsX0_pullOnce_r2) ++ wsX00)
def wsX1_init : List Cond := .code yX1_init cX1_init 2 none :: ([.methodLink RX1 3 objectInit, .instanceMethod objectInit, .code objectInit ⟨#[0xb1]⟩ 1 none, .classLink RX1 9 RX0, .fieldLink RX1 11 "RestedArms$History" "saved" "[LRestedArms$Board;", .instantiable RX0 12, .initialized RX0, .methodLink RX1 17 yX0_init, .instanceMethod yX0_init, .code yX0_init cX0_init 2 none, .methodLink RX0 3 objectInit, .arrayClass .int, .fieldLink RX0 9 "RestedArms$Board" "gifts" "[I", .fieldLink RX0 15 "RestedArms$Board" "goods" "[I", .fieldLink RX0 18 "RestedArms$Board" "bads" "[I", .fieldLink RX0 21 "RestedArms$Board" "chances" "[I", .fieldLink RX0 24 "RestedArms$Board" "places" "[I", .fieldLink RX0 27 "RestedArms$Board" "pulls" "[I", .fieldLink RX0 30 "RestedArms$Board" "settings" "[I", .fieldLink RX0 33 "RestedArms$Board" "last" "I", .constantLong RX0 37 (1000000), .fieldLink RX0 39 "RestedArms$Board" "weight" "J", .fieldLink RX0 43 "RestedArms$Board" "row" "J"] ++ wsX10 ++ wsX00)
def wsX1_moveOldestBehind : List Cond := .code yX1_moveOldestBehind cX1_moveOldestBehind 3 none :: ([.fieldLink RX1 11 "RestedArms$History" "saved" "[LRestedArms$Board;"] ++ wsX10)
def wsX1_boardAt : List Cond := .code yX1_boardAt cX1_boardAt 2 (some (.object "RestedArms$Board")) :: ([.fieldLink RX1 11 "RestedArms$History" "saved" "[LRestedArms$Board;"] ++ wsX10)
def wsX1_keep_r1 : List Cond := [Cond.fieldLink RX1 18 "RestedArms$History" "count" "I", Cond.fieldLink RX1 11 "RestedArms$History" "saved" "[LRestedArms$Board;", Cond.methodLink RX1 22 yX1_moveOldestBehind, Cond.instanceMethod yX1_moveOldestBehind, Cond.selects RX1 yX1_moveOldestBehind yX1_moveOldestBehind, Cond.initialized RX1, Cond.code yX1_moveOldestBehind cX1_moveOldestBehind 3 none, Cond.methodLink RX1 25 yX1_boardAt, Cond.instanceMethod yX1_boardAt, Cond.selects RX1 yX1_boardAt yX1_boardAt, Cond.code yX1_boardAt cX1_boardAt 2 (some (.object "RestedArms$Board")), Cond.methodLink RX1 29 yX0_copy, Cond.instanceMethod yX0_copy, Cond.selects RX0 yX0_copy yX0_copy, Cond.initialized RX0, Cond.code yX0_copy cX0_copy 2 none, Cond.fieldLink RX0 9 "RestedArms$Board" "gifts" "[I", Cond.methodLink RX0 46 arraycopyName, Cond.native arraycopyName, Cond.static arraycopyName, Cond.initialized "java/lang/System", Cond.fieldLink RX0 15 "RestedArms$Board" "goods" "[I", Cond.fieldLink RX0 18 "RestedArms$Board" "bads" "[I", Cond.fieldLink RX0 21 "RestedArms$Board" "chances" "[I"]
def wsX1_keep_r2 : List Cond := [Cond.fieldLink RX0 24 "RestedArms$Board" "places" "[I", Cond.fieldLink RX0 27 "RestedArms$Board" "pulls" "[I", Cond.fieldLink RX0 30 "RestedArms$Board" "settings" "[I", Cond.fieldLink RX0 52 "RestedArms$Board" "changes" "I", Cond.fieldLink RX0 33 "RestedArms$Board" "last" "I", Cond.fieldLink RX0 55 "RestedArms$Board" "brought" "J", Cond.fieldLink RX0 39 "RestedArms$Board" "weight" "J", Cond.fieldLink RX0 43 "RestedArms$Board" "row" "J"]
def wsX1_keep : List Cond := .code yX1_keep cX1_keep 3 none :: ((wsX1_keep_r1 ++ wsX1_keep_r2) ++ wsX10 ++ wsX00)
def wsX1_bringBack_r1 : List Cond := [Cond.fieldLink RX1 18 "RestedArms$History" "count" "I", Cond.methodLink RX1 25 yX1_boardAt, Cond.instanceMethod yX1_boardAt, Cond.selects RX1 yX1_boardAt yX1_boardAt, Cond.initialized RX1, Cond.code yX1_boardAt cX1_boardAt 2 (some (.object "RestedArms$Board")), Cond.fieldLink RX1 11 "RestedArms$History" "saved" "[LRestedArms$Board;", Cond.methodLink RX1 29 yX0_copy, Cond.instanceMethod yX0_copy, Cond.selects RX0 yX0_copy yX0_copy, Cond.initialized RX0, Cond.code yX0_copy cX0_copy 2 none, Cond.fieldLink RX0 9 "RestedArms$Board" "gifts" "[I", Cond.methodLink RX0 46 arraycopyName, Cond.native arraycopyName, Cond.static arraycopyName, Cond.initialized "java/lang/System", Cond.fieldLink RX0 15 "RestedArms$Board" "goods" "[I", Cond.fieldLink RX0 18 "RestedArms$Board" "bads" "[I", Cond.fieldLink RX0 21 "RestedArms$Board" "chances" "[I", Cond.fieldLink RX0 24 "RestedArms$Board" "places" "[I", Cond.fieldLink RX0 27 "RestedArms$Board" "pulls" "[I", Cond.fieldLink RX0 30 "RestedArms$Board" "settings" "[I", Cond.fieldLink RX0 52 "RestedArms$Board" "changes" "I"]
def wsX1_bringBack_r2 : List Cond := [Cond.fieldLink RX0 33 "RestedArms$Board" "last" "I", Cond.fieldLink RX0 55 "RestedArms$Board" "brought" "J", Cond.fieldLink RX0 39 "RestedArms$Board" "weight" "J", Cond.fieldLink RX0 43 "RestedArms$Board" "row" "J"]
def wsX1_bringBack : List Cond := .code yX1_bringBack cX1_bringBack 3 none :: ((wsX1_bringBack_r1 ++ wsX1_bringBack_r2) ++ wsX10 ++ wsX00)
def wsX2_init : List Cond := .code yX2_init cX2_init 1 none :: ([.methodLink RX2 3 objectInit, .instanceMethod objectInit, .code objectInit ⟨#[0xb1]⟩ 1 none, .arrayClass .long, .fieldLink RX2 9 "RestedArms$Indices" "table" "[J", .arrayClass .boolean, .fieldLink RX2 15 "RestedArms$Indices" "fresh" "[Z", .fieldLink RX2 19 "RestedArms$Indices" "values" "[J", .fieldLink RX2 22 "RestedArms$Indices" "own" "[J"] ++ wsX20)
def wsX2_forgetArm : List Cond := .code yX2_forgetArm cX2_forgetArm 2 none :: ([.fieldLink RX2 15 "RestedArms$Indices" "fresh" "[Z"] ++ wsX20)
def wsX2_forgetAll : List Cond := .code yX2_forgetAll cX2_forgetAll 2 none :: ([.fieldLink RX2 15 "RestedArms$Indices" "fresh" "[Z"] ++ wsX20)
def wsX2_clearValues : List Cond := .code yX2_clearValues cX2_clearValues 2 none :: ([.fieldLink RX2 19 "RestedArms$Indices" "values" "[J"] ++ wsX20)
def wsX4_at_ : List Cond := .code yX4_at_ cX4_at_ 2 (some .long) :: ([])
def wsX4_store_ : List Cond := .code yX4_store_ cX4_store_ 4 none :: ([])
def wsX2_turn_r1 : List Cond := [Cond.fieldLink RX2 37 "RestedArms$Board" "settings" "[I", Cond.fieldLink RX2 58 "RestedArms$Board" "chances" "[I", Cond.fieldLink RX2 19 "RestedArms$Indices" "values" "[J", Cond.fieldLink RX2 61 "RestedArms$Board" "goods" "[I", Cond.fieldLink RX2 67 "RestedArms$Board" "bads" "[I", Cond.constantLong RX2 70 (8), Cond.constantLong RX2 78 (100), Cond.fieldLink RX2 22 "RestedArms$Indices" "own" "[J", Cond.constantLong RX2 80 (1000), Cond.fieldLink RX2 82 "RestedArms$Board" "gifts" "[I", Cond.methodLink RX2 85 Lib.MathLoose.max_long.x, Cond.static Lib.MathLoose.max_long.x, Cond.initialized "java/lang/Math", Cond.code Lib.MathLoose.max_long.x Lib.MathLoose.max_long.code 4 (some .long), Cond.static yX4_at, Cond.initialized RX4, Cond.code yX4_at cX4_at 2 (some .int), Cond.static yX4_slotOf, Cond.code yX4_slotOf cX4_slotOf 2 (some .int), Cond.static yX4_at_, Cond.code yX4_at_ cX4_at_ 2 (some .long), Cond.methodLink RX2 72 yJ9_floorDiv_f86c9, Cond.static yJ9_floorDiv_f86c9, Cond.initialized RJ9]
def wsX2_turn_r2 : List Cond := [Cond.code yJ9_floorDiv_f86c9 cJ9_floorDiv_f86c9 6 (some .long), Cond.static yX4_store_, Cond.code yX4_store_ cX4_store_ 4 none]
def wsX2_turn : List Cond := .code yX2_turn cX2_turn 18 none :: ((wsX2_turn_r1 ++ wsX2_turn_r2) ++ wsX00 ++ wsX20)
def wsX2_indexNow : List Cond := .code yX2_indexNow cX2_indexNow 3 (some .long) :: ([.constantLong RX2 78 (100), .fieldLink RX2 37 "RestedArms$Board" "settings" "[I", .fieldLink RX2 19 "RestedArms$Indices" "values" "[J", .static yX4_at, .initialized RX4, .code yX4_at cX4_at 2 (some .int), .static yX4_at_, .code yX4_at_ cX4_at_ 2 (some .long), .methodLink RX2 72 yJ9_floorDiv_f86c9, .static yJ9_floorDiv_f86c9, .initialized RJ9, .code yJ9_floorDiv_f86c9 cJ9_floorDiv_f86c9 6 (some .long)] ++ wsX00 ++ wsX20)
def wsX2_find_r1 : List Cond := [Cond.fieldLink RX2 37 "RestedArms$Board" "settings" "[I", Cond.static yX4_at, Cond.initialized RX4, Cond.code yX4_at cX4_at 2 (some .int), Cond.methodLink RX2 47 yX2_clearValues, Cond.instanceMethod yX2_clearValues, Cond.selects RX2 yX2_clearValues yX2_clearValues, Cond.initialized RX2, Cond.code yX2_clearValues cX2_clearValues 2 none, Cond.fieldLink RX2 19 "RestedArms$Indices" "values" "[J", Cond.methodLink RX2 50 yX2_turn, Cond.instanceMethod yX2_turn, Cond.selects RX2 yX2_turn yX2_turn, Cond.code yX2_turn cX2_turn 18 none, Cond.fieldLink RX2 58 "RestedArms$Board" "chances" "[I", Cond.fieldLink RX2 61 "RestedArms$Board" "goods" "[I", Cond.fieldLink RX2 67 "RestedArms$Board" "bads" "[I", Cond.constantLong RX2 70 (8), Cond.constantLong RX2 78 (100), Cond.fieldLink RX2 22 "RestedArms$Indices" "own" "[J", Cond.constantLong RX2 80 (1000), Cond.fieldLink RX2 82 "RestedArms$Board" "gifts" "[I", Cond.methodLink RX2 85 Lib.MathLoose.max_long.x, Cond.static Lib.MathLoose.max_long.x]
def wsX2_find_r2 : List Cond := [Cond.initialized "java/lang/Math", Cond.code Lib.MathLoose.max_long.x Lib.MathLoose.max_long.code 4 (some .long), Cond.static yX4_slotOf, Cond.code yX4_slotOf cX4_slotOf 2 (some .int), Cond.static yX4_at_, Cond.code yX4_at_ cX4_at_ 2 (some .long), Cond.methodLink RX2 72 yJ9_floorDiv_f86c9, Cond.static yJ9_floorDiv_f86c9, Cond.initialized RJ9, Cond.code yJ9_floorDiv_f86c9 cJ9_floorDiv_f86c9 6 (some .long), Cond.static yX4_store_, Cond.code yX4_store_ cX4_store_ 4 none, Cond.methodLink RX2 54 yX2_indexNow, Cond.instanceMethod yX2_indexNow, Cond.selects RX2 yX2_indexNow yX2_indexNow, Cond.code yX2_indexNow cX2_indexNow 3 (some .long)]
def wsX2_find : List Cond := .code yX2_find cX2_find 6 (some .long) :: ((wsX2_find_r1 ++ wsX2_find_r2) ++ wsX00 ++ wsX20)
def wsX2_refresh_r1 : List Cond := [Cond.fieldLink RX2 15 "RestedArms$Indices" "fresh" "[Z", Cond.fieldLink RX2 9 "RestedArms$Indices" "table" "[J", Cond.static yX4_slotOf, Cond.initialized RX4, Cond.code yX4_slotOf cX4_slotOf 2 (some .int), Cond.methodLink RX2 29 yX2_find, Cond.instanceMethod yX2_find, Cond.selects RX2 yX2_find yX2_find, Cond.initialized RX2, Cond.code yX2_find cX2_find 6 (some .long), Cond.fieldLink RX2 37 "RestedArms$Board" "settings" "[I", Cond.static yX4_at, Cond.code yX4_at cX4_at 2 (some .int), Cond.methodLink RX2 47 yX2_clearValues, Cond.instanceMethod yX2_clearValues, Cond.selects RX2 yX2_clearValues yX2_clearValues, Cond.code yX2_clearValues cX2_clearValues 2 none, Cond.fieldLink RX2 19 "RestedArms$Indices" "values" "[J", Cond.methodLink RX2 50 yX2_turn, Cond.instanceMethod yX2_turn, Cond.selects RX2 yX2_turn yX2_turn, Cond.code yX2_turn cX2_turn 18 none, Cond.fieldLink RX2 58 "RestedArms$Board" "chances" "[I", Cond.fieldLink RX2 61 "RestedArms$Board" "goods" "[I"]
def wsX2_refresh_r2 : List Cond := [Cond.fieldLink RX2 67 "RestedArms$Board" "bads" "[I", Cond.constantLong RX2 70 (8), Cond.constantLong RX2 78 (100), Cond.fieldLink RX2 22 "RestedArms$Indices" "own" "[J", Cond.constantLong RX2 80 (1000), Cond.fieldLink RX2 82 "RestedArms$Board" "gifts" "[I", Cond.methodLink RX2 85 Lib.MathLoose.max_long.x, Cond.static Lib.MathLoose.max_long.x, Cond.initialized "java/lang/Math", Cond.code Lib.MathLoose.max_long.x Lib.MathLoose.max_long.code 4 (some .long), Cond.static yX4_at_, Cond.code yX4_at_ cX4_at_ 2 (some .long), Cond.methodLink RX2 72 yJ9_floorDiv_f86c9, Cond.static yJ9_floorDiv_f86c9, Cond.initialized RJ9, Cond.code yJ9_floorDiv_f86c9 cJ9_floorDiv_f86c9 6 (some .long), Cond.static yX4_store_, Cond.code yX4_store_ cX4_store_ 4 none, Cond.methodLink RX2 54 yX2_indexNow, Cond.instanceMethod yX2_indexNow, Cond.selects RX2 yX2_indexNow yX2_indexNow, Cond.code yX2_indexNow cX2_indexNow 3 (some .long)]
def wsX2_refresh : List Cond := .code yX2_refresh cX2_refresh 4 none :: ((wsX2_refresh_r1 ++ wsX2_refresh_r2) ++ wsX20 ++ wsX00)
def wsX2_leastRounds_r1 : List Cond := [Cond.fieldLink RX2 37 "RestedArms$Board" "settings" "[I", Cond.static yX4_at, Cond.initialized RX4, Cond.code yX4_at cX4_at 2 (some .int), Cond.methodLink RX2 47 yX2_clearValues, Cond.instanceMethod yX2_clearValues, Cond.selects RX2 yX2_clearValues yX2_clearValues, Cond.initialized RX2, Cond.code yX2_clearValues cX2_clearValues 2 none, Cond.fieldLink RX2 19 "RestedArms$Indices" "values" "[J", Cond.methodLink RX2 50 yX2_turn, Cond.instanceMethod yX2_turn, Cond.selects RX2 yX2_turn yX2_turn, Cond.code yX2_turn cX2_turn 18 none, Cond.fieldLink RX2 58 "RestedArms$Board" "chances" "[I", Cond.fieldLink RX2 61 "RestedArms$Board" "goods" "[I", Cond.fieldLink RX2 67 "RestedArms$Board" "bads" "[I", Cond.constantLong RX2 70 (8), Cond.constantLong RX2 78 (100), Cond.fieldLink RX2 22 "RestedArms$Indices" "own" "[J", Cond.constantLong RX2 80 (1000), Cond.fieldLink RX2 82 "RestedArms$Board" "gifts" "[I", Cond.methodLink RX2 85 Lib.MathLoose.max_long.x, Cond.static Lib.MathLoose.max_long.x]
def wsX2_leastRounds_r2 : List Cond := [Cond.initialized "java/lang/Math", Cond.code Lib.MathLoose.max_long.x Lib.MathLoose.max_long.code 4 (some .long), Cond.static yX4_slotOf, Cond.code yX4_slotOf cX4_slotOf 2 (some .int), Cond.static yX4_at_, Cond.code yX4_at_ cX4_at_ 2 (some .long), Cond.methodLink RX2 72 yJ9_floorDiv_f86c9, Cond.static yJ9_floorDiv_f86c9, Cond.initialized RJ9, Cond.code yJ9_floorDiv_f86c9 cJ9_floorDiv_f86c9 6 (some .long), Cond.static yX4_store_, Cond.code yX4_store_ cX4_store_ 4 none, Cond.methodLink RX2 54 yX2_indexNow, Cond.instanceMethod yX2_indexNow, Cond.selects RX2 yX2_indexNow yX2_indexNow, Cond.code yX2_indexNow cX2_indexNow 3 (some .long)]
def wsX2_leastRounds : List Cond := .code yX2_leastRounds cX2_leastRounds 8 (some .int) :: ((wsX2_leastRounds_r1 ++ wsX2_leastRounds_r2) ++ wsX00 ++ wsX20)
def wsX3_init : List Cond := .code yX3_init cX3_init 1 none :: ([.methodLink RX3 3 objectInit, .instanceMethod objectInit, .code objectInit ⟨#[0xb1]⟩ 1 none, .arrayClass .int, .fieldLink RX3 9 "RestedArms$Text" "codes" "[I"] ++ wsX30)
def wsX4_isWithin : List Cond := .code yX4_isWithin cX4_isWithin 3 (some .boolean) :: ([])
def wsX3_isStateLetter : List Cond := .code yX3_isStateLetter cX3_isStateLetter 1 (some .boolean) :: ([.static yX4_isWithin, .initialized RX4, .code yX4_isWithin cX4_isWithin 3 (some .boolean)])
def wsX3_firstDigit : List Cond := .code yX3_firstDigit cX3_firstDigit 1 (some .int) :: ([.static yX4_isWithin, .initialized RX4, .code yX4_isWithin cX4_isWithin 3 (some .boolean)])
def wsX3_behindGift : List Cond := .code yX3_behindGift cX3_behindGift 1 (some .int) :: ([])
def wsX3_nextStage : List Cond := .code yX3_nextStage cX3_nextStage 2 (some .int) :: ([.static yX4_isWithin, .initialized RX4, .code yX4_isWithin cX4_isWithin 3 (some .boolean), .methodLink RX3 52 yX3_isStateLetter, .static yX3_isStateLetter, .initialized RX3, .code yX3_isStateLetter cX3_isStateLetter 1 (some .boolean), .methodLink RX3 56 yX3_firstDigit, .static yX3_firstDigit, .code yX3_firstDigit cX3_firstDigit 1 (some .int), .methodLink RX3 60 yX3_behindGift, .static yX3_behindGift, .code yX3_behindGift cX3_behindGift 1 (some .int)])
def wsX3_errorPlace : List Cond := .code yX3_errorPlace cX3_errorPlace 3 (some .int) :: ([.fieldLink RX3 15 "RestedArms$Text" "length" "I", .fieldLink RX3 9 "RestedArms$Text" "codes" "[I", .static yX4_at, .initialized RX4, .code yX4_at cX4_at 2 (some .int), .methodLink RX3 23 yX3_nextStage, .static yX3_nextStage, .initialized RX3, .code yX3_nextStage cX3_nextStage 2 (some .int), .static yX4_isWithin, .code yX4_isWithin cX4_isWithin 3 (some .boolean), .methodLink RX3 52 yX3_isStateLetter, .static yX3_isStateLetter, .code yX3_isStateLetter cX3_isStateLetter 1 (some .boolean), .methodLink RX3 56 yX3_firstDigit, .static yX3_firstDigit, .code yX3_firstDigit cX3_firstDigit 1 (some .int), .methodLink RX3 60 yX3_behindGift, .static yX3_behindGift, .code yX3_behindGift cX3_behindGift 1 (some .int)] ++ wsX30)
def wsX3_isWhole : List Cond := .code yX3_isWhole cX3_isWhole 3 (some .boolean) :: ([.fieldLink RX3 15 "RestedArms$Text" "length" "I", .fieldLink RX3 9 "RestedArms$Text" "codes" "[I", .static yX4_at, .initialized RX4, .code yX4_at cX4_at 2 (some .int), .methodLink RX3 23 yX3_nextStage, .static yX3_nextStage, .initialized RX3, .code yX3_nextStage cX3_nextStage 2 (some .int), .static yX4_isWithin, .code yX4_isWithin cX4_isWithin 3 (some .boolean), .methodLink RX3 52 yX3_isStateLetter, .static yX3_isStateLetter, .code yX3_isStateLetter cX3_isStateLetter 1 (some .boolean), .methodLink RX3 56 yX3_firstDigit, .static yX3_firstDigit, .code yX3_firstDigit cX3_firstDigit 1 (some .int), .methodLink RX3 60 yX3_behindGift, .static yX3_behindGift, .code yX3_behindGift cX3_behindGift 1 (some .int)] ++ wsX30)
def wsX3_moveInto_r1 : List Cond := [Cond.fieldLink RX3 15 "RestedArms$Text" "length" "I", Cond.fieldLink RX3 9 "RestedArms$Text" "codes" "[I", Cond.fieldLink RX3 30 "RestedArms$Board" "gifts" "[I", Cond.fieldLink RX3 39 "RestedArms$Board" "goods" "[I", Cond.fieldLink RX3 42 "RestedArms$Board" "bads" "[I", Cond.fieldLink RX3 45 "RestedArms$Board" "chances" "[I", Cond.static yX4_at, Cond.initialized RX4, Cond.code yX4_at cX4_at 2 (some .int), Cond.methodLink RX3 23 yX3_nextStage, Cond.static yX3_nextStage, Cond.initialized RX3, Cond.code yX3_nextStage cX3_nextStage 2 (some .int), Cond.static yX4_isWithin, Cond.code yX4_isWithin cX4_isWithin 3 (some .boolean), Cond.methodLink RX3 52 yX3_isStateLetter, Cond.static yX3_isStateLetter, Cond.code yX3_isStateLetter cX3_isStateLetter 1 (some .boolean), Cond.methodLink RX3 56 yX3_firstDigit, Cond.static yX3_firstDigit, Cond.code yX3_firstDigit cX3_firstDigit 1 (some .int), Cond.methodLink RX3 60 yX3_behindGift, Cond.static yX3_behindGift, Cond.code yX3_behindGift cX3_behindGift 1 (some .int)]
def wsX3_moveInto_r2 : List Cond := [Cond.static yX4_slotOf, Cond.code yX4_slotOf cX4_slotOf 2 (some .int), Cond.static yX4_store, Cond.code yX4_store cX4_store 3 none]
def wsX3_moveInto : List Cond := .code yX3_moveInto cX3_moveInto 8 (some .int) :: ((wsX3_moveInto_r1 ++ wsX3_moveInto_r2) ++ wsX30 ++ wsX00)
def wsX4_init_r1 : List Cond := [Cond.methodLink RX4 1 objectInit, Cond.instanceMethod objectInit, Cond.code objectInit ⟨#[0xb1]⟩ 1 none, Cond.classLink RX4 7 RX0, Cond.instantiable RX0 12, Cond.initialized RX0, Cond.fieldLink RX4 10 "RestedArms" "now" "LRestedArms$Board;", Cond.fieldLink RX4 16 "RestedArms" "trial" "LRestedArms$Board;", Cond.classLink RX4 19 RX1, Cond.instantiable RX1 2, Cond.initialized RX1, Cond.fieldLink RX4 22 "RestedArms" "history" "LRestedArms$History;", Cond.classLink RX4 26 RX2, Cond.instantiable RX2 4, Cond.initialized RX2, Cond.fieldLink RX4 29 "RestedArms" "indices" "LRestedArms$Indices;", Cond.classLink RX4 33 RX3, Cond.instantiable RX3 2, Cond.initialized RX3, Cond.fieldLink RX4 36 "RestedArms" "text" "LRestedArms$Text;", Cond.arrayClass .long, Cond.fieldLink RX4 40 "RestedArms" "scores" "[J", Cond.methodLink RX4 9 yX0_init, Cond.instanceMethod yX0_init]
def wsX4_init_r2 : List Cond := [Cond.code yX0_init cX0_init 2 none, Cond.methodLink RX0 3 objectInit, Cond.arrayClass .int, Cond.fieldLink RX0 9 "RestedArms$Board" "gifts" "[I", Cond.fieldLink RX0 15 "RestedArms$Board" "goods" "[I", Cond.fieldLink RX0 18 "RestedArms$Board" "bads" "[I", Cond.fieldLink RX0 21 "RestedArms$Board" "chances" "[I", Cond.fieldLink RX0 24 "RestedArms$Board" "places" "[I", Cond.fieldLink RX0 27 "RestedArms$Board" "pulls" "[I", Cond.fieldLink RX0 30 "RestedArms$Board" "settings" "[I", Cond.fieldLink RX0 33 "RestedArms$Board" "last" "I", Cond.constantLong RX0 37 (1000000), Cond.fieldLink RX0 39 "RestedArms$Board" "weight" "J", Cond.fieldLink RX0 43 "RestedArms$Board" "row" "J", Cond.methodLink RX4 21 yX1_init, Cond.instanceMethod yX1_init, Cond.code yX1_init cX1_init 2 none, Cond.methodLink RX1 3 objectInit, Cond.classLink RX1 9 RX0, Cond.fieldLink RX1 11 "RestedArms$History" "saved" "[LRestedArms$Board;", Cond.methodLink RX1 17 yX0_init, Cond.methodLink RX4 28 yX2_init, Cond.instanceMethod yX2_init, Cond.code yX2_init cX2_init 1 none]
def wsX4_init_r3 : List Cond := [Cond.methodLink RX2 3 objectInit, Cond.fieldLink RX2 9 "RestedArms$Indices" "table" "[J", Cond.arrayClass .boolean, Cond.fieldLink RX2 15 "RestedArms$Indices" "fresh" "[Z", Cond.fieldLink RX2 19 "RestedArms$Indices" "values" "[J", Cond.fieldLink RX2 22 "RestedArms$Indices" "own" "[J", Cond.methodLink RX4 35 yX3_init, Cond.instanceMethod yX3_init, Cond.code yX3_init cX3_init 1 none, Cond.methodLink RX3 3 objectInit, Cond.fieldLink RX3 9 "RestedArms$Text" "codes" "[I"]
def wsX4_init : List Cond := .code yX4_init cX4_init 1 none :: ((wsX4_init_r1 ++ (wsX4_init_r2 ++ wsX4_init_r3)) ++ wsX00 ++ wsX40 ++ wsX10 ++ wsX20 ++ wsX30)
def wsX4_needState : List Cond := .code yX4_needState cX4_needState 2 none :: ([.classLink RX4 302 "java/lang/IndexOutOfBoundsException", .initialized "java/lang/IndexOutOfBoundsException", .methodLink RX4 48 yX4_isWithin, .static yX4_isWithin, .initialized RX4, .code yX4_isWithin cX4_isWithin 3 (some .boolean)] ++ (vx_atS RX4 306 "java/lang/IndexOutOfBoundsException" ["java/lang/RuntimeException", "java/lang/Exception"]).filter goodWord)
def wsX4_gift_r1 : List Cond := [Cond.classLink RX4 52 "java/lang/IllegalArgumentException", Cond.initialized "java/lang/IllegalArgumentException", Cond.fieldLink RX4 22 "RestedArms" "history" "LRestedArms$History;", Cond.fieldLink RX4 10 "RestedArms" "now" "LRestedArms$Board;", Cond.fieldLink RX4 67 "RestedArms$Board" "gifts" "[I", Cond.fieldLink RX4 29 "RestedArms" "indices" "LRestedArms$Indices;", Cond.methodLink RX4 44 yX4_needState, Cond.static yX4_needState, Cond.initialized RX4, Cond.code yX4_needState cX4_needState 2 none, Cond.classLink RX4 302 "java/lang/IndexOutOfBoundsException", Cond.initialized "java/lang/IndexOutOfBoundsException", Cond.methodLink RX4 48 yX4_isWithin, Cond.static yX4_isWithin, Cond.code yX4_isWithin cX4_isWithin 3 (some .boolean), Cond.methodLink RX4 59 yX1_keep, Cond.instanceMethod yX1_keep, Cond.selects RX1 yX1_keep yX1_keep, Cond.initialized RX1, Cond.code yX1_keep cX1_keep 3 none, Cond.fieldLink RX1 18 "RestedArms$History" "count" "I", Cond.fieldLink RX1 11 "RestedArms$History" "saved" "[LRestedArms$Board;", Cond.methodLink RX1 22 yX1_moveOldestBehind, Cond.instanceMethod yX1_moveOldestBehind]
def wsX4_gift_r2 : List Cond := [Cond.selects RX1 yX1_moveOldestBehind yX1_moveOldestBehind, Cond.code yX1_moveOldestBehind cX1_moveOldestBehind 3 none, Cond.methodLink RX1 25 yX1_boardAt, Cond.instanceMethod yX1_boardAt, Cond.selects RX1 yX1_boardAt yX1_boardAt, Cond.code yX1_boardAt cX1_boardAt 2 (some (.object "RestedArms$Board")), Cond.methodLink RX1 29 yX0_copy, Cond.instanceMethod yX0_copy, Cond.selects RX0 yX0_copy yX0_copy, Cond.initialized RX0, Cond.code yX0_copy cX0_copy 2 none, Cond.fieldLink RX0 9 "RestedArms$Board" "gifts" "[I", Cond.methodLink RX0 46 arraycopyName, Cond.native arraycopyName, Cond.static arraycopyName, Cond.initialized "java/lang/System", Cond.fieldLink RX0 15 "RestedArms$Board" "goods" "[I", Cond.fieldLink RX0 18 "RestedArms$Board" "bads" "[I", Cond.fieldLink RX0 21 "RestedArms$Board" "chances" "[I", Cond.fieldLink RX0 24 "RestedArms$Board" "places" "[I", Cond.fieldLink RX0 27 "RestedArms$Board" "pulls" "[I", Cond.fieldLink RX0 30 "RestedArms$Board" "settings" "[I", Cond.fieldLink RX0 52 "RestedArms$Board" "changes" "I", Cond.fieldLink RX0 33 "RestedArms$Board" "last" "I"]
def wsX4_gift_r3 : List Cond := [Cond.fieldLink RX0 55 "RestedArms$Board" "brought" "J", Cond.fieldLink RX0 39 "RestedArms$Board" "weight" "J", Cond.fieldLink RX0 43 "RestedArms$Board" "row" "J", Cond.methodLink RX4 63 yX4_slotOf, Cond.static yX4_slotOf, Cond.code yX4_slotOf cX4_slotOf 2 (some .int), Cond.methodLink RX4 71 yX4_at, Cond.static yX4_at, Cond.code yX4_at cX4_at 2 (some .int), Cond.methodLink RX4 75 yX4_store, Cond.static yX4_store, Cond.code yX4_store cX4_store 3 none, Cond.methodLink RX4 79 yX2_forgetArm, Cond.instanceMethod yX2_forgetArm, Cond.selects RX2 yX2_forgetArm yX2_forgetArm, Cond.initialized RX2, Cond.code yX2_forgetArm cX2_forgetArm 2 none, Cond.fieldLink RX2 15 "RestedArms$Indices" "fresh" "[Z"]
def wsX4_gift : List Cond := .code yX4_gift cX4_gift 6 (some .int) :: ((wsX4_gift_r1 ++ (wsX4_gift_r2 ++ wsX4_gift_r3)) ++ wsX40 ++ wsX00 ++ wsX10 ++ wsX20 ++ (vx_atS RX4 56 "java/lang/IllegalArgumentException" ["java/lang/RuntimeException", "java/lang/Exception"]).filter goodWord ++ (vx_atS RX4 306 "java/lang/IndexOutOfBoundsException" ["java/lang/RuntimeException", "java/lang/Exception"]).filter goodWord)
def wsX4_way_r1 : List Cond := [Cond.classLink RX4 52 "java/lang/IllegalArgumentException", Cond.initialized "java/lang/IllegalArgumentException", Cond.fieldLink RX4 22 "RestedArms" "history" "LRestedArms$History;", Cond.fieldLink RX4 10 "RestedArms" "now" "LRestedArms$Board;", Cond.fieldLink RX4 85 "RestedArms$Board" "goods" "[I", Cond.fieldLink RX4 88 "RestedArms$Board" "bads" "[I", Cond.fieldLink RX4 91 "RestedArms$Board" "chances" "[I", Cond.fieldLink RX4 29 "RestedArms" "indices" "LRestedArms$Indices;", Cond.methodLink RX4 44 yX4_needState, Cond.static yX4_needState, Cond.initialized RX4, Cond.code yX4_needState cX4_needState 2 none, Cond.classLink RX4 302 "java/lang/IndexOutOfBoundsException", Cond.initialized "java/lang/IndexOutOfBoundsException", Cond.methodLink RX4 48 yX4_isWithin, Cond.static yX4_isWithin, Cond.code yX4_isWithin cX4_isWithin 3 (some .boolean), Cond.methodLink RX4 59 yX1_keep, Cond.instanceMethod yX1_keep, Cond.selects RX1 yX1_keep yX1_keep, Cond.initialized RX1, Cond.code yX1_keep cX1_keep 3 none, Cond.fieldLink RX1 18 "RestedArms$History" "count" "I", Cond.fieldLink RX1 11 "RestedArms$History" "saved" "[LRestedArms$Board;"]
def wsX4_way_r2 : List Cond := [Cond.methodLink RX1 22 yX1_moveOldestBehind, Cond.instanceMethod yX1_moveOldestBehind, Cond.selects RX1 yX1_moveOldestBehind yX1_moveOldestBehind, Cond.code yX1_moveOldestBehind cX1_moveOldestBehind 3 none, Cond.methodLink RX1 25 yX1_boardAt, Cond.instanceMethod yX1_boardAt, Cond.selects RX1 yX1_boardAt yX1_boardAt, Cond.code yX1_boardAt cX1_boardAt 2 (some (.object "RestedArms$Board")), Cond.methodLink RX1 29 yX0_copy, Cond.instanceMethod yX0_copy, Cond.selects RX0 yX0_copy yX0_copy, Cond.initialized RX0, Cond.code yX0_copy cX0_copy 2 none, Cond.fieldLink RX0 9 "RestedArms$Board" "gifts" "[I", Cond.methodLink RX0 46 arraycopyName, Cond.native arraycopyName, Cond.static arraycopyName, Cond.initialized "java/lang/System", Cond.fieldLink RX0 15 "RestedArms$Board" "goods" "[I", Cond.fieldLink RX0 18 "RestedArms$Board" "bads" "[I", Cond.fieldLink RX0 21 "RestedArms$Board" "chances" "[I", Cond.fieldLink RX0 24 "RestedArms$Board" "places" "[I", Cond.fieldLink RX0 27 "RestedArms$Board" "pulls" "[I", Cond.fieldLink RX0 30 "RestedArms$Board" "settings" "[I"]
def wsX4_way_r3 : List Cond := [Cond.fieldLink RX0 52 "RestedArms$Board" "changes" "I", Cond.fieldLink RX0 33 "RestedArms$Board" "last" "I", Cond.fieldLink RX0 55 "RestedArms$Board" "brought" "J", Cond.fieldLink RX0 39 "RestedArms$Board" "weight" "J", Cond.fieldLink RX0 43 "RestedArms$Board" "row" "J", Cond.methodLink RX4 63 yX4_slotOf, Cond.static yX4_slotOf, Cond.code yX4_slotOf cX4_slotOf 2 (some .int), Cond.methodLink RX4 71 yX4_at, Cond.static yX4_at, Cond.code yX4_at cX4_at 2 (some .int), Cond.methodLink RX4 75 yX4_store, Cond.static yX4_store, Cond.code yX4_store cX4_store 3 none, Cond.methodLink RX4 79 yX2_forgetArm, Cond.instanceMethod yX2_forgetArm, Cond.selects RX2 yX2_forgetArm yX2_forgetArm, Cond.initialized RX2, Cond.code yX2_forgetArm cX2_forgetArm 2 none, Cond.fieldLink RX2 15 "RestedArms$Indices" "fresh" "[Z"]
def wsX4_way : List Cond := .code yX4_way cX4_way 8 (some .int) :: ((wsX4_way_r1 ++ (wsX4_way_r2 ++ wsX4_way_r3)) ++ wsX40 ++ wsX00 ++ wsX10 ++ wsX20 ++ (vx_atS RX4 56 "java/lang/IllegalArgumentException" ["java/lang/RuntimeException", "java/lang/Exception"]).filter goodWord ++ (vx_atS RX4 306 "java/lang/IndexOutOfBoundsException" ["java/lang/RuntimeException", "java/lang/Exception"]).filter goodWord)
def wsX4_put_r1 : List Cond := [Cond.fieldLink RX4 22 "RestedArms" "history" "LRestedArms$History;", Cond.fieldLink RX4 10 "RestedArms" "now" "LRestedArms$Board;", Cond.fieldLink RX4 94 "RestedArms$Board" "places" "[I", Cond.methodLink RX4 44 yX4_needState, Cond.static yX4_needState, Cond.initialized RX4, Cond.code yX4_needState cX4_needState 2 none, Cond.classLink RX4 302 "java/lang/IndexOutOfBoundsException", Cond.initialized "java/lang/IndexOutOfBoundsException", Cond.methodLink RX4 48 yX4_isWithin, Cond.static yX4_isWithin, Cond.code yX4_isWithin cX4_isWithin 3 (some .boolean), Cond.methodLink RX4 59 yX1_keep, Cond.instanceMethod yX1_keep, Cond.selects RX1 yX1_keep yX1_keep, Cond.initialized RX1, Cond.code yX1_keep cX1_keep 3 none, Cond.fieldLink RX1 18 "RestedArms$History" "count" "I", Cond.fieldLink RX1 11 "RestedArms$History" "saved" "[LRestedArms$Board;", Cond.methodLink RX1 22 yX1_moveOldestBehind, Cond.instanceMethod yX1_moveOldestBehind, Cond.selects RX1 yX1_moveOldestBehind yX1_moveOldestBehind, Cond.code yX1_moveOldestBehind cX1_moveOldestBehind 3 none, Cond.methodLink RX1 25 yX1_boardAt]
def wsX4_put_r2 : List Cond := [Cond.instanceMethod yX1_boardAt, Cond.selects RX1 yX1_boardAt yX1_boardAt, Cond.code yX1_boardAt cX1_boardAt 2 (some (.object "RestedArms$Board")), Cond.methodLink RX1 29 yX0_copy, Cond.instanceMethod yX0_copy, Cond.selects RX0 yX0_copy yX0_copy, Cond.initialized RX0, Cond.code yX0_copy cX0_copy 2 none, Cond.fieldLink RX0 9 "RestedArms$Board" "gifts" "[I", Cond.methodLink RX0 46 arraycopyName, Cond.native arraycopyName, Cond.static arraycopyName, Cond.initialized "java/lang/System", Cond.fieldLink RX0 15 "RestedArms$Board" "goods" "[I", Cond.fieldLink RX0 18 "RestedArms$Board" "bads" "[I", Cond.fieldLink RX0 21 "RestedArms$Board" "chances" "[I", Cond.fieldLink RX0 24 "RestedArms$Board" "places" "[I", Cond.fieldLink RX0 27 "RestedArms$Board" "pulls" "[I", Cond.fieldLink RX0 30 "RestedArms$Board" "settings" "[I", Cond.fieldLink RX0 52 "RestedArms$Board" "changes" "I", Cond.fieldLink RX0 33 "RestedArms$Board" "last" "I", Cond.fieldLink RX0 55 "RestedArms$Board" "brought" "J", Cond.fieldLink RX0 39 "RestedArms$Board" "weight" "J", Cond.fieldLink RX0 43 "RestedArms$Board" "row" "J"]
def wsX4_put_r3 : List Cond := [Cond.methodLink RX4 71 yX4_at, Cond.static yX4_at, Cond.code yX4_at cX4_at 2 (some .int), Cond.methodLink RX4 75 yX4_store, Cond.static yX4_store, Cond.code yX4_store cX4_store 3 none]
def wsX4_put : List Cond := .code yX4_put cX4_put 4 (some .int) :: ((wsX4_put_r1 ++ (wsX4_put_r2 ++ wsX4_put_r3)) ++ wsX40 ++ wsX00 ++ wsX10 ++ (vx_atS RX4 306 "java/lang/IndexOutOfBoundsException" ["java/lang/RuntimeException", "java/lang/Exception"]).filter goodWord)
def wsX4_needSetting : List Cond := .code yX4_needSetting cX4_needSetting 1 none :: ([.classLink RX4 302 "java/lang/IndexOutOfBoundsException", .initialized "java/lang/IndexOutOfBoundsException", .methodLink RX4 48 yX4_isWithin, .static yX4_isWithin, .initialized RX4, .code yX4_isWithin cX4_isWithin 3 (some .boolean)] ++ (vx_atS RX4 306 "java/lang/IndexOutOfBoundsException" ["java/lang/RuntimeException", "java/lang/Exception"]).filter goodWord)
def wsX4_set_r1 : List Cond := [Cond.classLink RX4 52 "java/lang/IllegalArgumentException", Cond.initialized "java/lang/IllegalArgumentException", Cond.fieldLink RX4 100 "RestedArms" "LEAST_SETTING" "[I", Cond.fieldLink RX4 103 "RestedArms" "GREATEST_SETTING" "[I", Cond.fieldLink RX4 22 "RestedArms" "history" "LRestedArms$History;", Cond.fieldLink RX4 10 "RestedArms" "now" "LRestedArms$Board;", Cond.fieldLink RX4 108 "RestedArms$Board" "settings" "[I", Cond.fieldLink RX4 29 "RestedArms" "indices" "LRestedArms$Indices;", Cond.methodLink RX4 97 yX4_needSetting, Cond.static yX4_needSetting, Cond.initialized RX4, Cond.code yX4_needSetting cX4_needSetting 1 none, Cond.classLink RX4 302 "java/lang/IndexOutOfBoundsException", Cond.initialized "java/lang/IndexOutOfBoundsException", Cond.methodLink RX4 48 yX4_isWithin, Cond.static yX4_isWithin, Cond.code yX4_isWithin cX4_isWithin 3 (some .boolean), Cond.methodLink RX4 71 yX4_at, Cond.static yX4_at, Cond.code yX4_at cX4_at 2 (some .int), Cond.methodLink RX4 59 yX1_keep, Cond.instanceMethod yX1_keep, Cond.selects RX1 yX1_keep yX1_keep, Cond.initialized RX1]
def wsX4_set_r2 : List Cond := [Cond.code yX1_keep cX1_keep 3 none, Cond.fieldLink RX1 18 "RestedArms$History" "count" "I", Cond.fieldLink RX1 11 "RestedArms$History" "saved" "[LRestedArms$Board;", Cond.methodLink RX1 22 yX1_moveOldestBehind, Cond.instanceMethod yX1_moveOldestBehind, Cond.selects RX1 yX1_moveOldestBehind yX1_moveOldestBehind, Cond.code yX1_moveOldestBehind cX1_moveOldestBehind 3 none, Cond.methodLink RX1 25 yX1_boardAt, Cond.instanceMethod yX1_boardAt, Cond.selects RX1 yX1_boardAt yX1_boardAt, Cond.code yX1_boardAt cX1_boardAt 2 (some (.object "RestedArms$Board")), Cond.methodLink RX1 29 yX0_copy, Cond.instanceMethod yX0_copy, Cond.selects RX0 yX0_copy yX0_copy, Cond.initialized RX0, Cond.code yX0_copy cX0_copy 2 none, Cond.fieldLink RX0 9 "RestedArms$Board" "gifts" "[I", Cond.methodLink RX0 46 arraycopyName, Cond.native arraycopyName, Cond.static arraycopyName, Cond.initialized "java/lang/System", Cond.fieldLink RX0 15 "RestedArms$Board" "goods" "[I", Cond.fieldLink RX0 18 "RestedArms$Board" "bads" "[I", Cond.fieldLink RX0 21 "RestedArms$Board" "chances" "[I"]
def wsX4_set_r3 : List Cond := [Cond.fieldLink RX0 24 "RestedArms$Board" "places" "[I", Cond.fieldLink RX0 27 "RestedArms$Board" "pulls" "[I", Cond.fieldLink RX0 30 "RestedArms$Board" "settings" "[I", Cond.fieldLink RX0 52 "RestedArms$Board" "changes" "I", Cond.fieldLink RX0 33 "RestedArms$Board" "last" "I", Cond.fieldLink RX0 55 "RestedArms$Board" "brought" "J", Cond.fieldLink RX0 39 "RestedArms$Board" "weight" "J", Cond.fieldLink RX0 43 "RestedArms$Board" "row" "J", Cond.methodLink RX4 75 yX4_store, Cond.static yX4_store, Cond.code yX4_store cX4_store 3 none, Cond.methodLink RX4 111 yX2_forgetAll, Cond.instanceMethod yX2_forgetAll, Cond.selects RX2 yX2_forgetAll yX2_forgetAll, Cond.initialized RX2, Cond.code yX2_forgetAll cX2_forgetAll 2 none, Cond.fieldLink RX2 15 "RestedArms$Indices" "fresh" "[Z"]
def wsX4_set : List Cond := .code yX4_set cX4_set 4 (some .int) :: ((wsX4_set_r1 ++ (wsX4_set_r2 ++ wsX4_set_r3)) ++ wsX40 ++ wsX00 ++ wsX10 ++ wsX20 ++ (vx_atS RX4 56 "java/lang/IllegalArgumentException" ["java/lang/RuntimeException", "java/lang/Exception"]).filter goodWord ++ (vx_atS RX4 306 "java/lang/IndexOutOfBoundsException" ["java/lang/RuntimeException", "java/lang/Exception"]).filter goodWord)
def wsX4_needArm : List Cond := .code yX4_needArm cX4_needArm 1 none :: ([.classLink RX4 302 "java/lang/IndexOutOfBoundsException", .initialized "java/lang/IndexOutOfBoundsException", .methodLink RX4 48 yX4_isWithin, .static yX4_isWithin, .initialized RX4, .code yX4_isWithin cX4_isWithin 3 (some .boolean)] ++ (vx_atS RX4 306 "java/lang/IndexOutOfBoundsException" ["java/lang/RuntimeException", "java/lang/Exception"]).filter goodWord)
def wsX4_pull_r1 : List Cond := [Cond.classLink RX4 121 "java/lang/IllegalStateException", Cond.initialized "java/lang/IllegalStateException", Cond.fieldLink RX4 10 "RestedArms" "now" "LRestedArms$Board;", Cond.fieldLink RX4 22 "RestedArms" "history" "LRestedArms$History;", Cond.fieldLink RX4 94 "RestedArms$Board" "places" "[I", Cond.methodLink RX4 114 yX4_needArm, Cond.static yX4_needArm, Cond.initialized RX4, Cond.code yX4_needArm cX4_needArm 1 none, Cond.classLink RX4 302 "java/lang/IndexOutOfBoundsException", Cond.initialized "java/lang/IndexOutOfBoundsException", Cond.methodLink RX4 48 yX4_isWithin, Cond.static yX4_isWithin, Cond.code yX4_isWithin cX4_isWithin 3 (some .boolean), Cond.methodLink RX4 117 yX0_allPulls, Cond.instanceMethod yX0_allPulls, Cond.selects RX0 yX0_allPulls yX0_allPulls, Cond.initialized RX0, Cond.code yX0_allPulls cX0_allPulls 3 (some .int), Cond.fieldLink RX0 27 "RestedArms$Board" "pulls" "[I", Cond.static yX4_at, Cond.code yX4_at cX4_at 2 (some .int), Cond.methodLink RX4 59 yX1_keep, Cond.instanceMethod yX1_keep]
def wsX4_pull_r2 : List Cond := [Cond.selects RX1 yX1_keep yX1_keep, Cond.initialized RX1, Cond.code yX1_keep cX1_keep 3 none, Cond.fieldLink RX1 18 "RestedArms$History" "count" "I", Cond.fieldLink RX1 11 "RestedArms$History" "saved" "[LRestedArms$Board;", Cond.methodLink RX1 22 yX1_moveOldestBehind, Cond.instanceMethod yX1_moveOldestBehind, Cond.selects RX1 yX1_moveOldestBehind yX1_moveOldestBehind, Cond.code yX1_moveOldestBehind cX1_moveOldestBehind 3 none, Cond.methodLink RX1 25 yX1_boardAt, Cond.instanceMethod yX1_boardAt, Cond.selects RX1 yX1_boardAt yX1_boardAt, Cond.code yX1_boardAt cX1_boardAt 2 (some (.object "RestedArms$Board")), Cond.methodLink RX1 29 yX0_copy, Cond.instanceMethod yX0_copy, Cond.selects RX0 yX0_copy yX0_copy, Cond.code yX0_copy cX0_copy 2 none, Cond.fieldLink RX0 9 "RestedArms$Board" "gifts" "[I", Cond.methodLink RX0 46 arraycopyName, Cond.native arraycopyName, Cond.static arraycopyName, Cond.initialized "java/lang/System", Cond.fieldLink RX0 15 "RestedArms$Board" "goods" "[I", Cond.fieldLink RX0 18 "RestedArms$Board" "bads" "[I"]
def wsX4_pull_r3 : List Cond := [Cond.fieldLink RX0 21 "RestedArms$Board" "chances" "[I", Cond.fieldLink RX0 24 "RestedArms$Board" "places" "[I", Cond.fieldLink RX0 30 "RestedArms$Board" "settings" "[I", Cond.fieldLink RX0 52 "RestedArms$Board" "changes" "I", Cond.fieldLink RX0 33 "RestedArms$Board" "last" "I", Cond.fieldLink RX0 55 "RestedArms$Board" "brought" "J", Cond.fieldLink RX0 39 "RestedArms$Board" "weight" "J", Cond.fieldLink RX0 43 "RestedArms$Board" "row" "J", Cond.methodLink RX4 126 yX0_pullOnce, Cond.instanceMethod yX0_pullOnce, Cond.selects RX0 yX0_pullOnce yX0_pullOnce, Cond.code yX0_pullOnce cX0_pullOnce 5 none, Cond.constantLong RX0 72 (1000), Cond.constantLong RX0 37 (1000000), Cond.constantLong RX0 84 (100), Cond.static yX4_slotOf, Cond.code yX4_slotOf cX4_slotOf 2 (some .int), Cond.methodLink RX0 66 yX0_wouldChange, Cond.instanceMethod yX0_wouldChange, Cond.selects RX0 yX0_wouldChange yX0_wouldChange, Cond.code yX0_wouldChange cX0_wouldChange 2 (some .boolean), Cond.methodLink RX0 78 yJ9_floorDiv_f86c9, Cond.static yJ9_floorDiv_f86c9, Cond.initialized RJ9]
def wsX4_pull_r4 : List Cond := [Cond.code yJ9_floorDiv_f86c9 cJ9_floorDiv_f86c9 6 (some .long), Cond.static yX4_store, Cond.code yX4_store cX4_store 3 none, Cond.methodLink RX0 86 yX0_goOn, Cond.instanceMethod yX0_goOn, Cond.selects RX0 yX0_goOn yX0_goOn, Cond.code yX0_goOn cX0_goOn 4 none, Cond.constantLong RX0 90 (6364136223846793005), Cond.constantLong RX0 92 (1442695040888963407), Cond.methodLink RX4 71 yX4_at]
def wsX4_pull : List Cond := .code yX4_pull cX4_pull 2 (some .int) :: ((wsX4_pull_r1 ++ (wsX4_pull_r2 ++ (wsX4_pull_r3 ++ wsX4_pull_r4))) ++ wsX40 ++ wsX00 ++ wsX10 ++ (vx_atS RX4 125 "java/lang/IllegalStateException" ["java/lang/RuntimeException", "java/lang/Exception"]).filter goodWord ++ (vx_atS RX4 306 "java/lang/IndexOutOfBoundsException" ["java/lang/RuntimeException", "java/lang/Exception"]).filter goodWord)
def wsX4_needRule : List Cond := .code yX4_needRule cX4_needRule 1 none :: ([.classLink RX4 52 "java/lang/IllegalArgumentException", .initialized "java/lang/IllegalArgumentException", .methodLink RX4 48 yX4_isWithin, .static yX4_isWithin, .initialized RX4, .code yX4_isWithin cX4_isWithin 3 (some .boolean)] ++ (vx_atS RX4 56 "java/lang/IllegalArgumentException" ["java/lang/RuntimeException", "java/lang/Exception"]).filter goodWord)
def wsX4_needPulls : List Cond := .code yX4_needPulls cX4_needPulls 1 none :: ([.classLink RX4 52 "java/lang/IllegalArgumentException", .initialized "java/lang/IllegalArgumentException", .methodLink RX4 48 yX4_isWithin, .static yX4_isWithin, .initialized RX4, .code yX4_isWithin cX4_isWithin 3 (some .boolean)] ++ (vx_atS RX4 56 "java/lang/IllegalArgumentException" ["java/lang/RuntimeException", "java/lang/Exception"]).filter goodWord)
def wsX4_scoreAll_r1 : List Cond := [Cond.fieldLink RX4 94 "RestedArms$Board" "places" "[I", Cond.fieldLink RX4 29 "RestedArms" "indices" "LRestedArms$Indices;", Cond.fieldLink RX4 188 "RestedArms$Indices" "table" "[J", Cond.fieldLink RX4 67 "RestedArms$Board" "gifts" "[I", Cond.fieldLink RX4 40 "RestedArms" "scores" "[J", Cond.methodLink RX4 71 yX4_at, Cond.static yX4_at, Cond.initialized RX4, Cond.code yX4_at cX4_at 2 (some .int), Cond.methodLink RX4 63 yX4_slotOf, Cond.static yX4_slotOf, Cond.code yX4_slotOf cX4_slotOf 2 (some .int), Cond.methodLink RX4 191 yX4_at_, Cond.static yX4_at_, Cond.code yX4_at_ cX4_at_ 2 (some .long), Cond.methodLink RX4 325 yX0_costOf, Cond.instanceMethod yX0_costOf, Cond.selects RX0 yX0_costOf yX0_costOf, Cond.initialized RX0, Cond.code yX0_costOf cX0_costOf 5 (some .long), Cond.fieldLink RX0 30 "RestedArms$Board" "settings" "[I", Cond.constantLong RX0 70 (10), Cond.methodLink RX0 66 yX0_wouldChange, Cond.instanceMethod yX0_wouldChange]
def wsX4_scoreAll_r2 : List Cond := [Cond.selects RX0 yX0_wouldChange yX0_wouldChange, Cond.code yX0_wouldChange cX0_wouldChange 2 (some .boolean), Cond.fieldLink RX0 33 "RestedArms$Board" "last" "I", Cond.methodLink RX4 328 yX4_store_, Cond.static yX4_store_, Cond.code yX4_store_ cX4_store_ 4 none]
def wsX4_scoreAll : List Cond := .code yX4_scoreAll cX4_scoreAll 7 none :: ((wsX4_scoreAll_r1 ++ wsX4_scoreAll_r2) ++ wsX00 ++ wsX40 ++ wsX20)
def wsX4_greatestScore : List Cond := .code yX4_greatestScore cX4_greatestScore 4 (some .int) :: ([.fieldLink RX4 40 "RestedArms" "scores" "[J", .methodLink RX4 48 yX4_isWithin, .static yX4_isWithin, .initialized RX4, .code yX4_isWithin cX4_isWithin 3 (some .boolean), .methodLink RX4 191 yX4_at_, .static yX4_at_, .code yX4_at_ cX4_at_ 2 (some .long)] ++ wsX40)
def wsX4_chosenBy_r1 : List Cond := [Cond.fieldLink RX4 206 "RestedArms$Board" "last" "I", Cond.methodLink RX4 234 yX4_scoreAll, Cond.instanceMethod yX4_scoreAll, Cond.selects RX4 yX4_scoreAll yX4_scoreAll, Cond.initialized RX4, Cond.code yX4_scoreAll cX4_scoreAll 7 none, Cond.fieldLink RX4 94 "RestedArms$Board" "places" "[I", Cond.fieldLink RX4 29 "RestedArms" "indices" "LRestedArms$Indices;", Cond.fieldLink RX4 188 "RestedArms$Indices" "table" "[J", Cond.fieldLink RX4 67 "RestedArms$Board" "gifts" "[I", Cond.fieldLink RX4 40 "RestedArms" "scores" "[J", Cond.methodLink RX4 71 yX4_at, Cond.static yX4_at, Cond.code yX4_at cX4_at 2 (some .int), Cond.methodLink RX4 63 yX4_slotOf, Cond.static yX4_slotOf, Cond.code yX4_slotOf cX4_slotOf 2 (some .int), Cond.methodLink RX4 191 yX4_at_, Cond.static yX4_at_, Cond.code yX4_at_ cX4_at_ 2 (some .long), Cond.methodLink RX4 325 yX0_costOf, Cond.instanceMethod yX0_costOf, Cond.selects RX0 yX0_costOf yX0_costOf, Cond.initialized RX0]
def wsX4_chosenBy_r2 : List Cond := [Cond.code yX0_costOf cX0_costOf 5 (some .long), Cond.fieldLink RX0 30 "RestedArms$Board" "settings" "[I", Cond.constantLong RX0 70 (10), Cond.methodLink RX0 66 yX0_wouldChange, Cond.instanceMethod yX0_wouldChange, Cond.selects RX0 yX0_wouldChange yX0_wouldChange, Cond.code yX0_wouldChange cX0_wouldChange 2 (some .boolean), Cond.fieldLink RX0 33 "RestedArms$Board" "last" "I", Cond.methodLink RX4 328 yX4_store_, Cond.static yX4_store_, Cond.code yX4_store_ cX4_store_ 4 none, Cond.methodLink RX4 322 yX4_greatestScore, Cond.instanceMethod yX4_greatestScore, Cond.selects RX4 yX4_greatestScore yX4_greatestScore, Cond.code yX4_greatestScore cX4_greatestScore 4 (some .int), Cond.methodLink RX4 48 yX4_isWithin, Cond.static yX4_isWithin, Cond.code yX4_isWithin cX4_isWithin 3 (some .boolean)]
def wsX4_chosenBy : List Cond := .code yX4_chosenBy cX4_chosenBy 3 (some .int) :: ((wsX4_chosenBy_r1 ++ wsX4_chosenBy_r2) ++ wsX00 ++ wsX40 ++ wsX20)
def wsX4_playOn_r1 : List Cond := [Cond.methodLink RX4 223 yX4_chosenBy, Cond.instanceMethod yX4_chosenBy, Cond.selects RX4 yX4_chosenBy yX4_chosenBy, Cond.initialized RX4, Cond.code yX4_chosenBy cX4_chosenBy 3 (some .int), Cond.fieldLink RX4 206 "RestedArms$Board" "last" "I", Cond.methodLink RX4 234 yX4_scoreAll, Cond.instanceMethod yX4_scoreAll, Cond.selects RX4 yX4_scoreAll yX4_scoreAll, Cond.code yX4_scoreAll cX4_scoreAll 7 none, Cond.fieldLink RX4 94 "RestedArms$Board" "places" "[I", Cond.fieldLink RX4 29 "RestedArms" "indices" "LRestedArms$Indices;", Cond.fieldLink RX4 188 "RestedArms$Indices" "table" "[J", Cond.fieldLink RX4 67 "RestedArms$Board" "gifts" "[I", Cond.fieldLink RX4 40 "RestedArms" "scores" "[J", Cond.methodLink RX4 71 yX4_at, Cond.static yX4_at, Cond.code yX4_at cX4_at 2 (some .int), Cond.methodLink RX4 63 yX4_slotOf, Cond.static yX4_slotOf, Cond.code yX4_slotOf cX4_slotOf 2 (some .int), Cond.methodLink RX4 191 yX4_at_, Cond.static yX4_at_, Cond.code yX4_at_ cX4_at_ 2 (some .long)]
def wsX4_playOn_r2 : List Cond := [Cond.methodLink RX4 325 yX0_costOf, Cond.instanceMethod yX0_costOf, Cond.selects RX0 yX0_costOf yX0_costOf, Cond.initialized RX0, Cond.code yX0_costOf cX0_costOf 5 (some .long), Cond.fieldLink RX0 30 "RestedArms$Board" "settings" "[I", Cond.constantLong RX0 70 (10), Cond.methodLink RX0 66 yX0_wouldChange, Cond.instanceMethod yX0_wouldChange, Cond.selects RX0 yX0_wouldChange yX0_wouldChange, Cond.code yX0_wouldChange cX0_wouldChange 2 (some .boolean), Cond.fieldLink RX0 33 "RestedArms$Board" "last" "I", Cond.methodLink RX4 328 yX4_store_, Cond.static yX4_store_, Cond.code yX4_store_ cX4_store_ 4 none, Cond.methodLink RX4 322 yX4_greatestScore, Cond.instanceMethod yX4_greatestScore, Cond.selects RX4 yX4_greatestScore yX4_greatestScore, Cond.code yX4_greatestScore cX4_greatestScore 4 (some .int), Cond.methodLink RX4 48 yX4_isWithin, Cond.static yX4_isWithin, Cond.code yX4_isWithin cX4_isWithin 3 (some .boolean), Cond.methodLink RX4 126 yX0_pullOnce, Cond.instanceMethod yX0_pullOnce]
def wsX4_playOn_r3 : List Cond := [Cond.selects RX0 yX0_pullOnce yX0_pullOnce, Cond.code yX0_pullOnce cX0_pullOnce 5 none, Cond.constantLong RX0 72 (1000), Cond.fieldLink RX0 9 "RestedArms$Board" "gifts" "[I", Cond.fieldLink RX0 24 "RestedArms$Board" "places" "[I", Cond.fieldLink RX0 52 "RestedArms$Board" "changes" "I", Cond.fieldLink RX0 55 "RestedArms$Board" "brought" "J", Cond.fieldLink RX0 39 "RestedArms$Board" "weight" "J", Cond.constantLong RX0 37 (1000000), Cond.constantLong RX0 84 (100), Cond.fieldLink RX0 27 "RestedArms$Board" "pulls" "[I", Cond.methodLink RX0 78 yJ9_floorDiv_f86c9, Cond.static yJ9_floorDiv_f86c9, Cond.initialized RJ9, Cond.code yJ9_floorDiv_f86c9 cJ9_floorDiv_f86c9 6 (some .long), Cond.static yX4_store, Cond.code yX4_store cX4_store 3 none, Cond.methodLink RX0 86 yX0_goOn, Cond.instanceMethod yX0_goOn, Cond.selects RX0 yX0_goOn yX0_goOn, Cond.code yX0_goOn cX0_goOn 4 none, Cond.fieldLink RX0 43 "RestedArms$Board" "row" "J", Cond.constantLong RX0 90 (6364136223846793005), Cond.constantLong RX0 92 (1442695040888963407)]
def wsX4_playOn_r4 : List Cond := [Cond.fieldLink RX0 21 "RestedArms$Board" "chances" "[I", Cond.fieldLink RX0 15 "RestedArms$Board" "goods" "[I", Cond.fieldLink RX0 18 "RestedArms$Board" "bads" "[I"]
def wsX4_playOn : List Cond := .code yX4_playOn cX4_playOn 5 none :: ((wsX4_playOn_r1 ++ (wsX4_playOn_r2 ++ (wsX4_playOn_r3 ++ wsX4_playOn_r4))) ++ wsX00 ++ wsX40 ++ wsX20)
def wsX4_play_r1 : List Cond := [Cond.classLink RX4 121 "java/lang/IllegalStateException", Cond.initialized "java/lang/IllegalStateException", Cond.fieldLink RX4 10 "RestedArms" "now" "LRestedArms$Board;", Cond.fieldLink RX4 22 "RestedArms" "history" "LRestedArms$History;", Cond.fieldLink RX4 29 "RestedArms" "indices" "LRestedArms$Indices;", Cond.fieldLink RX4 140 "RestedArms$Board" "changes" "I", Cond.methodLink RX4 129 yX4_needRule, Cond.static yX4_needRule, Cond.initialized RX4, Cond.code yX4_needRule cX4_needRule 1 none, Cond.classLink RX4 52 "java/lang/IllegalArgumentException", Cond.initialized "java/lang/IllegalArgumentException", Cond.methodLink RX4 48 yX4_isWithin, Cond.static yX4_isWithin, Cond.code yX4_isWithin cX4_isWithin 3 (some .boolean), Cond.methodLink RX4 132 yX4_needPulls, Cond.static yX4_needPulls, Cond.code yX4_needPulls cX4_needPulls 1 none, Cond.methodLink RX4 117 yX0_allPulls, Cond.instanceMethod yX0_allPulls, Cond.selects RX0 yX0_allPulls yX0_allPulls, Cond.initialized RX0, Cond.code yX0_allPulls cX0_allPulls 3 (some .int), Cond.fieldLink RX0 27 "RestedArms$Board" "pulls" "[I"]
def wsX4_play_r2 : List Cond := [Cond.static yX4_at, Cond.code yX4_at cX4_at 2 (some .int), Cond.methodLink RX4 59 yX1_keep, Cond.instanceMethod yX1_keep, Cond.selects RX1 yX1_keep yX1_keep, Cond.initialized RX1, Cond.code yX1_keep cX1_keep 3 none, Cond.fieldLink RX1 18 "RestedArms$History" "count" "I", Cond.fieldLink RX1 11 "RestedArms$History" "saved" "[LRestedArms$Board;", Cond.methodLink RX1 22 yX1_moveOldestBehind, Cond.instanceMethod yX1_moveOldestBehind, Cond.selects RX1 yX1_moveOldestBehind yX1_moveOldestBehind, Cond.code yX1_moveOldestBehind cX1_moveOldestBehind 3 none, Cond.methodLink RX1 25 yX1_boardAt, Cond.instanceMethod yX1_boardAt, Cond.selects RX1 yX1_boardAt yX1_boardAt, Cond.code yX1_boardAt cX1_boardAt 2 (some (.object "RestedArms$Board")), Cond.methodLink RX1 29 yX0_copy, Cond.instanceMethod yX0_copy, Cond.selects RX0 yX0_copy yX0_copy, Cond.code yX0_copy cX0_copy 2 none, Cond.fieldLink RX0 9 "RestedArms$Board" "gifts" "[I", Cond.methodLink RX0 46 arraycopyName, Cond.native arraycopyName]
def wsX4_play_r3 : List Cond := [Cond.static arraycopyName, Cond.initialized "java/lang/System", Cond.fieldLink RX0 15 "RestedArms$Board" "goods" "[I", Cond.fieldLink RX0 18 "RestedArms$Board" "bads" "[I", Cond.fieldLink RX0 21 "RestedArms$Board" "chances" "[I", Cond.fieldLink RX0 24 "RestedArms$Board" "places" "[I", Cond.fieldLink RX0 30 "RestedArms$Board" "settings" "[I", Cond.fieldLink RX0 52 "RestedArms$Board" "changes" "I", Cond.fieldLink RX0 33 "RestedArms$Board" "last" "I", Cond.fieldLink RX0 55 "RestedArms$Board" "brought" "J", Cond.fieldLink RX0 39 "RestedArms$Board" "weight" "J", Cond.fieldLink RX0 43 "RestedArms$Board" "row" "J", Cond.methodLink RX4 137 yX2_refresh, Cond.instanceMethod yX2_refresh, Cond.selects RX2 yX2_refresh yX2_refresh, Cond.initialized RX2, Cond.code yX2_refresh cX2_refresh 4 none, Cond.fieldLink RX2 15 "RestedArms$Indices" "fresh" "[Z", Cond.fieldLink RX2 9 "RestedArms$Indices" "table" "[J", Cond.static yX4_slotOf, Cond.code yX4_slotOf cX4_slotOf 2 (some .int), Cond.methodLink RX2 29 yX2_find, Cond.instanceMethod yX2_find, Cond.selects RX2 yX2_find yX2_find]
def wsX4_play_r4 : List Cond := [Cond.code yX2_find cX2_find 6 (some .long), Cond.fieldLink RX2 37 "RestedArms$Board" "settings" "[I", Cond.methodLink RX2 47 yX2_clearValues, Cond.instanceMethod yX2_clearValues, Cond.selects RX2 yX2_clearValues yX2_clearValues, Cond.code yX2_clearValues cX2_clearValues 2 none, Cond.fieldLink RX2 19 "RestedArms$Indices" "values" "[J", Cond.methodLink RX2 50 yX2_turn, Cond.instanceMethod yX2_turn, Cond.selects RX2 yX2_turn yX2_turn, Cond.code yX2_turn cX2_turn 18 none, Cond.fieldLink RX2 58 "RestedArms$Board" "chances" "[I", Cond.fieldLink RX2 61 "RestedArms$Board" "goods" "[I", Cond.fieldLink RX2 67 "RestedArms$Board" "bads" "[I", Cond.constantLong RX2 70 (8), Cond.constantLong RX2 78 (100), Cond.fieldLink RX2 22 "RestedArms$Indices" "own" "[J", Cond.constantLong RX2 80 (1000), Cond.fieldLink RX2 82 "RestedArms$Board" "gifts" "[I", Cond.methodLink RX2 85 Lib.MathLoose.max_long.x, Cond.static Lib.MathLoose.max_long.x, Cond.initialized "java/lang/Math", Cond.code Lib.MathLoose.max_long.x Lib.MathLoose.max_long.code 4 (some .long), Cond.static yX4_at_]
def wsX4_play_r5 : List Cond := [Cond.code yX4_at_ cX4_at_ 2 (some .long), Cond.methodLink RX2 72 yJ9_floorDiv_f86c9, Cond.static yJ9_floorDiv_f86c9, Cond.initialized RJ9, Cond.code yJ9_floorDiv_f86c9 cJ9_floorDiv_f86c9 6 (some .long), Cond.static yX4_store_, Cond.code yX4_store_ cX4_store_ 4 none, Cond.methodLink RX2 54 yX2_indexNow, Cond.instanceMethod yX2_indexNow, Cond.selects RX2 yX2_indexNow yX2_indexNow, Cond.code yX2_indexNow cX2_indexNow 3 (some .long), Cond.methodLink RX4 144 yX4_playOn, Cond.instanceMethod yX4_playOn, Cond.selects RX4 yX4_playOn yX4_playOn, Cond.code yX4_playOn cX4_playOn 5 none, Cond.methodLink RX4 223 yX4_chosenBy, Cond.instanceMethod yX4_chosenBy, Cond.selects RX4 yX4_chosenBy yX4_chosenBy, Cond.code yX4_chosenBy cX4_chosenBy 3 (some .int), Cond.fieldLink RX4 206 "RestedArms$Board" "last" "I", Cond.methodLink RX4 234 yX4_scoreAll, Cond.instanceMethod yX4_scoreAll, Cond.selects RX4 yX4_scoreAll yX4_scoreAll, Cond.code yX4_scoreAll cX4_scoreAll 7 none]
def wsX4_play_r6 : List Cond := [Cond.fieldLink RX4 94 "RestedArms$Board" "places" "[I", Cond.fieldLink RX4 188 "RestedArms$Indices" "table" "[J", Cond.fieldLink RX4 67 "RestedArms$Board" "gifts" "[I", Cond.fieldLink RX4 40 "RestedArms" "scores" "[J", Cond.methodLink RX4 71 yX4_at, Cond.methodLink RX4 63 yX4_slotOf, Cond.methodLink RX4 191 yX4_at_, Cond.methodLink RX4 325 yX0_costOf, Cond.instanceMethod yX0_costOf, Cond.selects RX0 yX0_costOf yX0_costOf, Cond.code yX0_costOf cX0_costOf 5 (some .long), Cond.constantLong RX0 70 (10), Cond.methodLink RX0 66 yX0_wouldChange, Cond.instanceMethod yX0_wouldChange, Cond.selects RX0 yX0_wouldChange yX0_wouldChange, Cond.code yX0_wouldChange cX0_wouldChange 2 (some .boolean), Cond.methodLink RX4 328 yX4_store_, Cond.methodLink RX4 322 yX4_greatestScore, Cond.instanceMethod yX4_greatestScore, Cond.selects RX4 yX4_greatestScore yX4_greatestScore, Cond.code yX4_greatestScore cX4_greatestScore 4 (some .int), Cond.methodLink RX4 126 yX0_pullOnce, Cond.instanceMethod yX0_pullOnce, Cond.selects RX0 yX0_pullOnce yX0_pullOnce]
def wsX4_play_r7 : List Cond := [Cond.code yX0_pullOnce cX0_pullOnce 5 none, Cond.constantLong RX0 72 (1000), Cond.constantLong RX0 37 (1000000), Cond.constantLong RX0 84 (100), Cond.methodLink RX0 78 yJ9_floorDiv_f86c9, Cond.static yX4_store, Cond.code yX4_store cX4_store 3 none, Cond.methodLink RX0 86 yX0_goOn, Cond.instanceMethod yX0_goOn, Cond.selects RX0 yX0_goOn yX0_goOn, Cond.code yX0_goOn cX0_goOn 4 none, Cond.constantLong RX0 90 (6364136223846793005), Cond.constantLong RX0 92 (1442695040888963407)]
def wsX4_play : List Cond := .code yX4_play cX4_play 4 (some .int) :: ((wsX4_play_r1 ++ (wsX4_play_r2 ++ (wsX4_play_r3 ++ (wsX4_play_r4 ++ (wsX4_play_r5 ++ (wsX4_play_r6 ++ wsX4_play_r7)))))) ++ wsX40 ++ wsX00 ++ wsX10 ++ wsX20 ++ (vx_atS RX4 125 "java/lang/IllegalStateException" ["java/lang/RuntimeException", "java/lang/Exception"]).filter goodWord ++ (vx_atS RX4 56 "java/lang/IllegalArgumentException" ["java/lang/RuntimeException", "java/lang/Exception"]).filter goodWord)
def wsX4_begin_r1 : List Cond := [Cond.fieldLink RX4 22 "RestedArms" "history" "LRestedArms$History;", Cond.fieldLink RX4 10 "RestedArms" "now" "LRestedArms$Board;", Cond.methodLink RX4 59 yX1_keep, Cond.instanceMethod yX1_keep, Cond.selects RX1 yX1_keep yX1_keep, Cond.initialized RX1, Cond.code yX1_keep cX1_keep 3 none, Cond.fieldLink RX1 18 "RestedArms$History" "count" "I", Cond.fieldLink RX1 11 "RestedArms$History" "saved" "[LRestedArms$Board;", Cond.methodLink RX1 22 yX1_moveOldestBehind, Cond.instanceMethod yX1_moveOldestBehind, Cond.selects RX1 yX1_moveOldestBehind yX1_moveOldestBehind, Cond.code yX1_moveOldestBehind cX1_moveOldestBehind 3 none, Cond.methodLink RX1 25 yX1_boardAt, Cond.instanceMethod yX1_boardAt, Cond.selects RX1 yX1_boardAt yX1_boardAt, Cond.code yX1_boardAt cX1_boardAt 2 (some (.object "RestedArms$Board")), Cond.methodLink RX1 29 yX0_copy, Cond.instanceMethod yX0_copy, Cond.selects RX0 yX0_copy yX0_copy, Cond.initialized RX0, Cond.code yX0_copy cX0_copy 2 none, Cond.fieldLink RX0 9 "RestedArms$Board" "gifts" "[I", Cond.methodLink RX0 46 arraycopyName]
def wsX4_begin_r2 : List Cond := [Cond.native arraycopyName, Cond.static arraycopyName, Cond.initialized "java/lang/System", Cond.fieldLink RX0 15 "RestedArms$Board" "goods" "[I", Cond.fieldLink RX0 18 "RestedArms$Board" "bads" "[I", Cond.fieldLink RX0 21 "RestedArms$Board" "chances" "[I", Cond.fieldLink RX0 24 "RestedArms$Board" "places" "[I", Cond.fieldLink RX0 27 "RestedArms$Board" "pulls" "[I", Cond.fieldLink RX0 30 "RestedArms$Board" "settings" "[I", Cond.fieldLink RX0 52 "RestedArms$Board" "changes" "I", Cond.fieldLink RX0 33 "RestedArms$Board" "last" "I", Cond.fieldLink RX0 55 "RestedArms$Board" "brought" "J", Cond.fieldLink RX0 39 "RestedArms$Board" "weight" "J", Cond.fieldLink RX0 43 "RestedArms$Board" "row" "J", Cond.methodLink RX4 117 yX0_allPulls, Cond.instanceMethod yX0_allPulls, Cond.selects RX0 yX0_allPulls yX0_allPulls, Cond.code yX0_allPulls cX0_allPulls 3 (some .int), Cond.static yX4_at, Cond.initialized RX4, Cond.code yX4_at cX4_at 2 (some .int), Cond.methodLink RX4 148 yX0_beginAnew, Cond.instanceMethod yX0_beginAnew, Cond.selects RX0 yX0_beginAnew yX0_beginAnew]
def wsX4_begin_r3 : List Cond := [Cond.code yX0_beginAnew cX0_beginAnew 4 none, Cond.constantLong RX0 37 (1000000), Cond.static yX4_store, Cond.code yX4_store cX4_store 3 none]
def wsX4_begin : List Cond := .code yX4_begin cX4_begin 4 (some .int) :: ((wsX4_begin_r1 ++ (wsX4_begin_r2 ++ wsX4_begin_r3)) ++ wsX40 ++ wsX10 ++ wsX00)
def wsX4_append : List Cond := .code yX4_append cX4_append 2 (some .int) :: ([.classLink RX4 52 "java/lang/IllegalArgumentException", .initialized "java/lang/IllegalArgumentException", .classLink RX4 121 "java/lang/IllegalStateException", .initialized "java/lang/IllegalStateException", .fieldLink RX4 36 "RestedArms" "text" "LRestedArms$Text;", .fieldLink RX4 154 "RestedArms$Text" "length" "I", .fieldLink RX4 159 "RestedArms$Text" "codes" "[I", .methodLink RX4 48 yX4_isWithin, .static yX4_isWithin, .initialized RX4, .code yX4_isWithin cX4_isWithin 3 (some .boolean), .methodLink RX4 75 yX4_store, .static yX4_store, .code yX4_store cX4_store 3 none] ++ wsX40 ++ wsX30 ++ (vx_atS RX4 56 "java/lang/IllegalArgumentException" ["java/lang/RuntimeException", "java/lang/Exception"]).filter goodWord ++ (vx_atS RX4 125 "java/lang/IllegalStateException" ["java/lang/RuntimeException", "java/lang/Exception"]).filter goodWord)
def wsX4_clearBuffer : List Cond := .code yX4_clearBuffer cX4_clearBuffer 2 (some .int) :: ([.fieldLink RX4 36 "RestedArms" "text" "LRestedArms$Text;", .fieldLink RX4 154 "RestedArms$Text" "length" "I"] ++ wsX40 ++ wsX30)
def wsX4_firstError_r1 : List Cond := [Cond.fieldLink RX4 36 "RestedArms" "text" "LRestedArms$Text;", Cond.methodLink RX4 162 yX3_errorPlace, Cond.instanceMethod yX3_errorPlace, Cond.selects RX3 yX3_errorPlace yX3_errorPlace, Cond.initialized RX3, Cond.code yX3_errorPlace cX3_errorPlace 3 (some .int), Cond.fieldLink RX3 15 "RestedArms$Text" "length" "I", Cond.fieldLink RX3 9 "RestedArms$Text" "codes" "[I", Cond.static yX4_at, Cond.initialized RX4, Cond.code yX4_at cX4_at 2 (some .int), Cond.methodLink RX3 23 yX3_nextStage, Cond.static yX3_nextStage, Cond.code yX3_nextStage cX3_nextStage 2 (some .int), Cond.static yX4_isWithin, Cond.code yX4_isWithin cX4_isWithin 3 (some .boolean), Cond.methodLink RX3 52 yX3_isStateLetter, Cond.static yX3_isStateLetter, Cond.code yX3_isStateLetter cX3_isStateLetter 1 (some .boolean), Cond.methodLink RX3 56 yX3_firstDigit, Cond.static yX3_firstDigit, Cond.code yX3_firstDigit cX3_firstDigit 1 (some .int), Cond.methodLink RX3 60 yX3_behindGift, Cond.static yX3_behindGift]
def wsX4_firstError_r2 : List Cond := [Cond.code yX3_behindGift cX3_behindGift 1 (some .int)]
def wsX4_firstError : List Cond := .code yX4_firstError cX4_firstError 1 (some .int) :: ((wsX4_firstError_r1 ++ wsX4_firstError_r2) ++ wsX40 ++ wsX30)
def wsX4_read_r1 : List Cond := [Cond.classLink RX4 52 "java/lang/IllegalArgumentException", Cond.initialized "java/lang/IllegalArgumentException", Cond.fieldLink RX4 36 "RestedArms" "text" "LRestedArms$Text;", Cond.fieldLink RX4 22 "RestedArms" "history" "LRestedArms$History;", Cond.fieldLink RX4 10 "RestedArms" "now" "LRestedArms$Board;", Cond.fieldLink RX4 154 "RestedArms$Text" "length" "I", Cond.fieldLink RX4 29 "RestedArms" "indices" "LRestedArms$Indices;", Cond.methodLink RX4 165 yX3_isWhole, Cond.instanceMethod yX3_isWhole, Cond.selects RX3 yX3_isWhole yX3_isWhole, Cond.initialized RX3, Cond.code yX3_isWhole cX3_isWhole 3 (some .boolean), Cond.fieldLink RX3 15 "RestedArms$Text" "length" "I", Cond.fieldLink RX3 9 "RestedArms$Text" "codes" "[I", Cond.static yX4_at, Cond.initialized RX4, Cond.code yX4_at cX4_at 2 (some .int), Cond.methodLink RX3 23 yX3_nextStage, Cond.static yX3_nextStage, Cond.code yX3_nextStage cX3_nextStage 2 (some .int), Cond.static yX4_isWithin, Cond.code yX4_isWithin cX4_isWithin 3 (some .boolean), Cond.methodLink RX3 52 yX3_isStateLetter, Cond.static yX3_isStateLetter]
def wsX4_read_r2 : List Cond := [Cond.code yX3_isStateLetter cX3_isStateLetter 1 (some .boolean), Cond.methodLink RX3 56 yX3_firstDigit, Cond.static yX3_firstDigit, Cond.code yX3_firstDigit cX3_firstDigit 1 (some .int), Cond.methodLink RX3 60 yX3_behindGift, Cond.static yX3_behindGift, Cond.code yX3_behindGift cX3_behindGift 1 (some .int), Cond.methodLink RX4 59 yX1_keep, Cond.instanceMethod yX1_keep, Cond.selects RX1 yX1_keep yX1_keep, Cond.initialized RX1, Cond.code yX1_keep cX1_keep 3 none, Cond.fieldLink RX1 18 "RestedArms$History" "count" "I", Cond.fieldLink RX1 11 "RestedArms$History" "saved" "[LRestedArms$Board;", Cond.methodLink RX1 22 yX1_moveOldestBehind, Cond.instanceMethod yX1_moveOldestBehind, Cond.selects RX1 yX1_moveOldestBehind yX1_moveOldestBehind, Cond.code yX1_moveOldestBehind cX1_moveOldestBehind 3 none, Cond.methodLink RX1 25 yX1_boardAt, Cond.instanceMethod yX1_boardAt, Cond.selects RX1 yX1_boardAt yX1_boardAt, Cond.code yX1_boardAt cX1_boardAt 2 (some (.object "RestedArms$Board")), Cond.methodLink RX1 29 yX0_copy, Cond.instanceMethod yX0_copy]
def wsX4_read_r3 : List Cond := [Cond.selects RX0 yX0_copy yX0_copy, Cond.initialized RX0, Cond.code yX0_copy cX0_copy 2 none, Cond.fieldLink RX0 9 "RestedArms$Board" "gifts" "[I", Cond.methodLink RX0 46 arraycopyName, Cond.native arraycopyName, Cond.static arraycopyName, Cond.initialized "java/lang/System", Cond.fieldLink RX0 15 "RestedArms$Board" "goods" "[I", Cond.fieldLink RX0 18 "RestedArms$Board" "bads" "[I", Cond.fieldLink RX0 21 "RestedArms$Board" "chances" "[I", Cond.fieldLink RX0 24 "RestedArms$Board" "places" "[I", Cond.fieldLink RX0 27 "RestedArms$Board" "pulls" "[I", Cond.fieldLink RX0 30 "RestedArms$Board" "settings" "[I", Cond.fieldLink RX0 52 "RestedArms$Board" "changes" "I", Cond.fieldLink RX0 33 "RestedArms$Board" "last" "I", Cond.fieldLink RX0 55 "RestedArms$Board" "brought" "J", Cond.fieldLink RX0 39 "RestedArms$Board" "weight" "J", Cond.fieldLink RX0 43 "RestedArms$Board" "row" "J", Cond.methodLink RX4 171 yX3_moveInto, Cond.instanceMethod yX3_moveInto, Cond.selects RX3 yX3_moveInto yX3_moveInto, Cond.code yX3_moveInto cX3_moveInto 8 (some .int), Cond.fieldLink RX3 30 "RestedArms$Board" "gifts" "[I"]
def wsX4_read_r4 : List Cond := [Cond.fieldLink RX3 39 "RestedArms$Board" "goods" "[I", Cond.fieldLink RX3 42 "RestedArms$Board" "bads" "[I", Cond.fieldLink RX3 45 "RestedArms$Board" "chances" "[I", Cond.static yX4_slotOf, Cond.code yX4_slotOf cX4_slotOf 2 (some .int), Cond.static yX4_store, Cond.code yX4_store cX4_store 3 none, Cond.methodLink RX4 111 yX2_forgetAll, Cond.instanceMethod yX2_forgetAll, Cond.selects RX2 yX2_forgetAll yX2_forgetAll, Cond.initialized RX2, Cond.code yX2_forgetAll cX2_forgetAll 2 none, Cond.fieldLink RX2 15 "RestedArms$Indices" "fresh" "[Z"]
def wsX4_read : List Cond := .code yX4_read cX4_read 2 (some .int) :: ((wsX4_read_r1 ++ (wsX4_read_r2 ++ (wsX4_read_r3 ++ wsX4_read_r4))) ++ wsX40 ++ wsX30 ++ wsX10 ++ wsX00 ++ wsX20 ++ (vx_atS RX4 56 "java/lang/IllegalArgumentException" ["java/lang/RuntimeException", "java/lang/Exception"]).filter goodWord)
def wsX4_undo_r1 : List Cond := [Cond.classLink RX4 121 "java/lang/IllegalStateException", Cond.initialized "java/lang/IllegalStateException", Cond.fieldLink RX4 22 "RestedArms" "history" "LRestedArms$History;", Cond.fieldLink RX4 175 "RestedArms$History" "count" "I", Cond.fieldLink RX4 10 "RestedArms" "now" "LRestedArms$Board;", Cond.fieldLink RX4 29 "RestedArms" "indices" "LRestedArms$Indices;", Cond.methodLink RX4 180 yX1_bringBack, Cond.instanceMethod yX1_bringBack, Cond.selects RX1 yX1_bringBack yX1_bringBack, Cond.initialized RX1, Cond.code yX1_bringBack cX1_bringBack 3 none, Cond.fieldLink RX1 18 "RestedArms$History" "count" "I", Cond.methodLink RX1 25 yX1_boardAt, Cond.instanceMethod yX1_boardAt, Cond.selects RX1 yX1_boardAt yX1_boardAt, Cond.code yX1_boardAt cX1_boardAt 2 (some (.object "RestedArms$Board")), Cond.fieldLink RX1 11 "RestedArms$History" "saved" "[LRestedArms$Board;", Cond.methodLink RX1 29 yX0_copy, Cond.instanceMethod yX0_copy, Cond.selects RX0 yX0_copy yX0_copy, Cond.initialized RX0, Cond.code yX0_copy cX0_copy 2 none, Cond.fieldLink RX0 9 "RestedArms$Board" "gifts" "[I", Cond.methodLink RX0 46 arraycopyName]
def wsX4_undo_r2 : List Cond := [Cond.native arraycopyName, Cond.static arraycopyName, Cond.initialized "java/lang/System", Cond.fieldLink RX0 15 "RestedArms$Board" "goods" "[I", Cond.fieldLink RX0 18 "RestedArms$Board" "bads" "[I", Cond.fieldLink RX0 21 "RestedArms$Board" "chances" "[I", Cond.fieldLink RX0 24 "RestedArms$Board" "places" "[I", Cond.fieldLink RX0 27 "RestedArms$Board" "pulls" "[I", Cond.fieldLink RX0 30 "RestedArms$Board" "settings" "[I", Cond.fieldLink RX0 52 "RestedArms$Board" "changes" "I", Cond.fieldLink RX0 33 "RestedArms$Board" "last" "I", Cond.fieldLink RX0 55 "RestedArms$Board" "brought" "J", Cond.fieldLink RX0 39 "RestedArms$Board" "weight" "J", Cond.fieldLink RX0 43 "RestedArms$Board" "row" "J", Cond.methodLink RX4 111 yX2_forgetAll, Cond.instanceMethod yX2_forgetAll, Cond.selects RX2 yX2_forgetAll yX2_forgetAll, Cond.initialized RX2, Cond.code yX2_forgetAll cX2_forgetAll 2 none, Cond.fieldLink RX2 15 "RestedArms$Indices" "fresh" "[Z"]
def wsX4_undo : List Cond := .code yX4_undo cX4_undo 1 (some .int) :: ((wsX4_undo_r1 ++ wsX4_undo_r2) ++ wsX40 ++ wsX10 ++ wsX00 ++ wsX20 ++ (vx_atS RX4 125 "java/lang/IllegalStateException" ["java/lang/RuntimeException", "java/lang/Exception"]).filter goodWord)
def wsX4_nextOf : List Cond := .code yX4_nextOf cX4_nextOf 5 (some .int) :: ([.fieldLink RX4 10 "RestedArms" "now" "LRestedArms$Board;", .fieldLink RX4 91 "RestedArms$Board" "chances" "[I", .fieldLink RX4 85 "RestedArms$Board" "goods" "[I", .fieldLink RX4 88 "RestedArms$Board" "bads" "[I", .methodLink RX4 71 yX4_at, .static yX4_at, .initialized RX4, .code yX4_at cX4_at 2 (some .int)] ++ wsX40 ++ wsX00)
def wsX4_reachedFrom : List Cond := .code yX4_reachedFrom cX4_reachedFrom 6 (some .int) :: ([.methodLink RX4 63 yX4_slotOf, .static yX4_slotOf, .initialized RX4, .code yX4_slotOf cX4_slotOf 2 (some .int), .methodLink RX4 315 yX4_nextOf, .instanceMethod yX4_nextOf, .selects RX4 yX4_nextOf yX4_nextOf, .code yX4_nextOf cX4_nextOf 5 (some .int), .fieldLink RX4 10 "RestedArms" "now" "LRestedArms$Board;", .fieldLink RX4 91 "RestedArms$Board" "chances" "[I", .fieldLink RX4 85 "RestedArms$Board" "goods" "[I", .fieldLink RX4 88 "RestedArms$Board" "bads" "[I", .methodLink RX4 71 yX4_at, .static yX4_at, .code yX4_at cX4_at 2 (some .int)] ++ wsX40 ++ wsX00)
def wsX4_stateOf_r1 : List Cond := [Cond.classLink RX4 52 "java/lang/IllegalArgumentException", Cond.initialized "java/lang/IllegalArgumentException", Cond.fieldLink RX4 10 "RestedArms" "now" "LRestedArms$Board;", Cond.fieldLink RX4 67 "RestedArms$Board" "gifts" "[I", Cond.fieldLink RX4 85 "RestedArms$Board" "goods" "[I", Cond.fieldLink RX4 88 "RestedArms$Board" "bads" "[I", Cond.fieldLink RX4 91 "RestedArms$Board" "chances" "[I", Cond.methodLink RX4 44 yX4_needState, Cond.static yX4_needState, Cond.initialized RX4, Cond.code yX4_needState cX4_needState 2 none, Cond.classLink RX4 302 "java/lang/IndexOutOfBoundsException", Cond.initialized "java/lang/IndexOutOfBoundsException", Cond.methodLink RX4 48 yX4_isWithin, Cond.static yX4_isWithin, Cond.code yX4_isWithin cX4_isWithin 3 (some .boolean), Cond.methodLink RX4 63 yX4_slotOf, Cond.static yX4_slotOf, Cond.code yX4_slotOf cX4_slotOf 2 (some .int), Cond.methodLink RX4 71 yX4_at, Cond.static yX4_at, Cond.code yX4_at cX4_at 2 (some .int), Cond.methodLink RX4 183 yX4_reachedFrom, Cond.instanceMethod yX4_reachedFrom]
def wsX4_stateOf_r2 : List Cond := [Cond.selects RX4 yX4_reachedFrom yX4_reachedFrom, Cond.code yX4_reachedFrom cX4_reachedFrom 6 (some .int), Cond.methodLink RX4 315 yX4_nextOf, Cond.instanceMethod yX4_nextOf, Cond.selects RX4 yX4_nextOf yX4_nextOf, Cond.code yX4_nextOf cX4_nextOf 5 (some .int)]
def wsX4_stateOf : List Cond := .code yX4_stateOf cX4_stateOf 5 (some .int) :: ((wsX4_stateOf_r1 ++ wsX4_stateOf_r2) ++ wsX40 ++ wsX00 ++ (vx_atS RX4 56 "java/lang/IllegalArgumentException" ["java/lang/RuntimeException", "java/lang/Exception"]).filter goodWord ++ (vx_atS RX4 306 "java/lang/IndexOutOfBoundsException" ["java/lang/RuntimeException", "java/lang/Exception"]).filter goodWord)
def wsX4_index_r1 : List Cond := [Cond.fieldLink RX4 29 "RestedArms" "indices" "LRestedArms$Indices;", Cond.fieldLink RX4 10 "RestedArms" "now" "LRestedArms$Board;", Cond.fieldLink RX4 188 "RestedArms$Indices" "table" "[J", Cond.methodLink RX4 44 yX4_needState, Cond.static yX4_needState, Cond.initialized RX4, Cond.code yX4_needState cX4_needState 2 none, Cond.classLink RX4 302 "java/lang/IndexOutOfBoundsException", Cond.initialized "java/lang/IndexOutOfBoundsException", Cond.methodLink RX4 48 yX4_isWithin, Cond.static yX4_isWithin, Cond.code yX4_isWithin cX4_isWithin 3 (some .boolean), Cond.methodLink RX4 137 yX2_refresh, Cond.instanceMethod yX2_refresh, Cond.selects RX2 yX2_refresh yX2_refresh, Cond.initialized RX2, Cond.code yX2_refresh cX2_refresh 4 none, Cond.fieldLink RX2 15 "RestedArms$Indices" "fresh" "[Z", Cond.fieldLink RX2 9 "RestedArms$Indices" "table" "[J", Cond.static yX4_slotOf, Cond.code yX4_slotOf cX4_slotOf 2 (some .int), Cond.methodLink RX2 29 yX2_find, Cond.instanceMethod yX2_find, Cond.selects RX2 yX2_find yX2_find]
def wsX4_index_r2 : List Cond := [Cond.code yX2_find cX2_find 6 (some .long), Cond.fieldLink RX2 37 "RestedArms$Board" "settings" "[I", Cond.static yX4_at, Cond.code yX4_at cX4_at 2 (some .int), Cond.methodLink RX2 47 yX2_clearValues, Cond.instanceMethod yX2_clearValues, Cond.selects RX2 yX2_clearValues yX2_clearValues, Cond.code yX2_clearValues cX2_clearValues 2 none, Cond.fieldLink RX2 19 "RestedArms$Indices" "values" "[J", Cond.methodLink RX2 50 yX2_turn, Cond.instanceMethod yX2_turn, Cond.selects RX2 yX2_turn yX2_turn, Cond.code yX2_turn cX2_turn 18 none, Cond.fieldLink RX2 58 "RestedArms$Board" "chances" "[I", Cond.fieldLink RX2 61 "RestedArms$Board" "goods" "[I", Cond.fieldLink RX2 67 "RestedArms$Board" "bads" "[I", Cond.constantLong RX2 70 (8), Cond.constantLong RX2 78 (100), Cond.fieldLink RX2 22 "RestedArms$Indices" "own" "[J", Cond.constantLong RX2 80 (1000), Cond.fieldLink RX2 82 "RestedArms$Board" "gifts" "[I", Cond.methodLink RX2 85 Lib.MathLoose.max_long.x, Cond.static Lib.MathLoose.max_long.x, Cond.initialized "java/lang/Math"]
def wsX4_index_r3 : List Cond := [Cond.code Lib.MathLoose.max_long.x Lib.MathLoose.max_long.code 4 (some .long), Cond.static yX4_at_, Cond.code yX4_at_ cX4_at_ 2 (some .long), Cond.methodLink RX2 72 yJ9_floorDiv_f86c9, Cond.static yJ9_floorDiv_f86c9, Cond.initialized RJ9, Cond.code yJ9_floorDiv_f86c9 cJ9_floorDiv_f86c9 6 (some .long), Cond.static yX4_store_, Cond.code yX4_store_ cX4_store_ 4 none, Cond.methodLink RX2 54 yX2_indexNow, Cond.instanceMethod yX2_indexNow, Cond.selects RX2 yX2_indexNow yX2_indexNow, Cond.code yX2_indexNow cX2_indexNow 3 (some .long), Cond.methodLink RX4 63 yX4_slotOf, Cond.methodLink RX4 191 yX4_at_]
def wsX4_index : List Cond := .code yX4_index cX4_index 3 (some .long) :: ((wsX4_index_r1 ++ (wsX4_index_r2 ++ wsX4_index_r3)) ++ wsX40 ++ wsX20 ++ wsX00 ++ (vx_atS RX4 306 "java/lang/IndexOutOfBoundsException" ["java/lang/RuntimeException", "java/lang/Exception"]).filter goodWord)
def wsX4_bestState : List Cond := .code yX4_bestState cX4_bestState 4 (some .int) :: ([.fieldLink RX4 29 "RestedArms" "indices" "LRestedArms$Indices;", .fieldLink RX4 188 "RestedArms$Indices" "table" "[J", .methodLink RX4 63 yX4_slotOf, .static yX4_slotOf, .initialized RX4, .code yX4_slotOf cX4_slotOf 2 (some .int), .methodLink RX4 191 yX4_at_, .static yX4_at_, .code yX4_at_ cX4_at_ 2 (some .long)] ++ wsX40 ++ wsX20)
def wsX4_roundsNeeded_r1 : List Cond := [Cond.fieldLink RX4 10 "RestedArms" "now" "LRestedArms$Board;", Cond.fieldLink RX4 94 "RestedArms$Board" "places" "[I", Cond.fieldLink RX4 29 "RestedArms" "indices" "LRestedArms$Indices;", Cond.fieldLink RX4 188 "RestedArms$Indices" "table" "[J", Cond.methodLink RX4 71 yX4_at, Cond.static yX4_at, Cond.initialized RX4, Cond.code yX4_at cX4_at 2 (some .int), Cond.methodLink RX4 63 yX4_slotOf, Cond.static yX4_slotOf, Cond.code yX4_slotOf cX4_slotOf 2 (some .int), Cond.methodLink RX4 191 yX4_at_, Cond.static yX4_at_, Cond.code yX4_at_ cX4_at_ 2 (some .long), Cond.methodLink RX4 318 yX2_leastRounds, Cond.instanceMethod yX2_leastRounds, Cond.selects RX2 yX2_leastRounds yX2_leastRounds, Cond.initialized RX2, Cond.code yX2_leastRounds cX2_leastRounds 8 (some .int), Cond.fieldLink RX2 37 "RestedArms$Board" "settings" "[I", Cond.methodLink RX2 47 yX2_clearValues, Cond.instanceMethod yX2_clearValues, Cond.selects RX2 yX2_clearValues yX2_clearValues, Cond.code yX2_clearValues cX2_clearValues 2 none]
def wsX4_roundsNeeded_r2 : List Cond := [Cond.fieldLink RX2 19 "RestedArms$Indices" "values" "[J", Cond.methodLink RX2 50 yX2_turn, Cond.instanceMethod yX2_turn, Cond.selects RX2 yX2_turn yX2_turn, Cond.code yX2_turn cX2_turn 18 none, Cond.fieldLink RX2 58 "RestedArms$Board" "chances" "[I", Cond.fieldLink RX2 61 "RestedArms$Board" "goods" "[I", Cond.fieldLink RX2 67 "RestedArms$Board" "bads" "[I", Cond.constantLong RX2 70 (8), Cond.constantLong RX2 78 (100), Cond.fieldLink RX2 22 "RestedArms$Indices" "own" "[J", Cond.constantLong RX2 80 (1000), Cond.fieldLink RX2 82 "RestedArms$Board" "gifts" "[I", Cond.methodLink RX2 85 Lib.MathLoose.max_long.x, Cond.static Lib.MathLoose.max_long.x, Cond.initialized "java/lang/Math", Cond.code Lib.MathLoose.max_long.x Lib.MathLoose.max_long.code 4 (some .long), Cond.methodLink RX2 72 yJ9_floorDiv_f86c9, Cond.static yJ9_floorDiv_f86c9, Cond.initialized RJ9, Cond.code yJ9_floorDiv_f86c9 cJ9_floorDiv_f86c9 6 (some .long), Cond.static yX4_store_, Cond.code yX4_store_ cX4_store_ 4 none, Cond.methodLink RX2 54 yX2_indexNow]
def wsX4_roundsNeeded_r3 : List Cond := [Cond.instanceMethod yX2_indexNow, Cond.selects RX2 yX2_indexNow yX2_indexNow, Cond.code yX2_indexNow cX2_indexNow 3 (some .long)]
def wsX4_roundsNeeded : List Cond := .code yX4_roundsNeeded cX4_roundsNeeded 3 (some .int) :: ((wsX4_roundsNeeded_r1 ++ (wsX4_roundsNeeded_r2 ++ wsX4_roundsNeeded_r3)) ++ wsX40 ++ wsX00 ++ wsX20)
def wsX4_arm_r1 : List Cond := [Cond.classLink RX4 52 "java/lang/IllegalArgumentException", Cond.initialized "java/lang/IllegalArgumentException", Cond.fieldLink RX4 10 "RestedArms" "now" "LRestedArms$Board;", Cond.fieldLink RX4 94 "RestedArms$Board" "places" "[I", Cond.fieldLink RX4 194 "RestedArms$Board" "pulls" "[I", Cond.fieldLink RX4 29 "RestedArms" "indices" "LRestedArms$Indices;", Cond.methodLink RX4 114 yX4_needArm, Cond.static yX4_needArm, Cond.initialized RX4, Cond.code yX4_needArm cX4_needArm 1 none, Cond.classLink RX4 302 "java/lang/IndexOutOfBoundsException", Cond.initialized "java/lang/IndexOutOfBoundsException", Cond.methodLink RX4 48 yX4_isWithin, Cond.static yX4_isWithin, Cond.code yX4_isWithin cX4_isWithin 3 (some .boolean), Cond.methodLink RX4 71 yX4_at, Cond.static yX4_at, Cond.code yX4_at cX4_at 2 (some .int), Cond.methodLink RX4 137 yX2_refresh, Cond.instanceMethod yX2_refresh, Cond.selects RX2 yX2_refresh yX2_refresh, Cond.initialized RX2, Cond.code yX2_refresh cX2_refresh 4 none, Cond.fieldLink RX2 15 "RestedArms$Indices" "fresh" "[Z"]
def wsX4_arm_r2 : List Cond := [Cond.fieldLink RX2 9 "RestedArms$Indices" "table" "[J", Cond.static yX4_slotOf, Cond.code yX4_slotOf cX4_slotOf 2 (some .int), Cond.methodLink RX2 29 yX2_find, Cond.instanceMethod yX2_find, Cond.selects RX2 yX2_find yX2_find, Cond.code yX2_find cX2_find 6 (some .long), Cond.fieldLink RX2 37 "RestedArms$Board" "settings" "[I", Cond.methodLink RX2 47 yX2_clearValues, Cond.instanceMethod yX2_clearValues, Cond.selects RX2 yX2_clearValues yX2_clearValues, Cond.code yX2_clearValues cX2_clearValues 2 none, Cond.fieldLink RX2 19 "RestedArms$Indices" "values" "[J", Cond.methodLink RX2 50 yX2_turn, Cond.instanceMethod yX2_turn, Cond.selects RX2 yX2_turn yX2_turn, Cond.code yX2_turn cX2_turn 18 none, Cond.fieldLink RX2 58 "RestedArms$Board" "chances" "[I", Cond.fieldLink RX2 61 "RestedArms$Board" "goods" "[I", Cond.fieldLink RX2 67 "RestedArms$Board" "bads" "[I", Cond.constantLong RX2 70 (8), Cond.constantLong RX2 78 (100), Cond.fieldLink RX2 22 "RestedArms$Indices" "own" "[J", Cond.constantLong RX2 80 (1000)]
def wsX4_arm_r3 : List Cond := [Cond.fieldLink RX2 82 "RestedArms$Board" "gifts" "[I", Cond.methodLink RX2 85 Lib.MathLoose.max_long.x, Cond.static Lib.MathLoose.max_long.x, Cond.initialized "java/lang/Math", Cond.code Lib.MathLoose.max_long.x Lib.MathLoose.max_long.code 4 (some .long), Cond.static yX4_at_, Cond.code yX4_at_ cX4_at_ 2 (some .long), Cond.methodLink RX2 72 yJ9_floorDiv_f86c9, Cond.static yJ9_floorDiv_f86c9, Cond.initialized RJ9, Cond.code yJ9_floorDiv_f86c9 cJ9_floorDiv_f86c9 6 (some .long), Cond.static yX4_store_, Cond.code yX4_store_ cX4_store_ 4 none, Cond.methodLink RX2 54 yX2_indexNow, Cond.instanceMethod yX2_indexNow, Cond.selects RX2 yX2_indexNow yX2_indexNow, Cond.code yX2_indexNow cX2_indexNow 3 (some .long), Cond.methodLink RX4 197 yX4_bestState, Cond.instanceMethod yX4_bestState, Cond.selects RX4 yX4_bestState yX4_bestState, Cond.code yX4_bestState cX4_bestState 4 (some .int), Cond.fieldLink RX4 188 "RestedArms$Indices" "table" "[J", Cond.methodLink RX4 63 yX4_slotOf, Cond.methodLink RX4 191 yX4_at_]
def wsX4_arm_r4 : List Cond := [Cond.methodLink RX4 201 yX4_roundsNeeded, Cond.instanceMethod yX4_roundsNeeded, Cond.selects RX4 yX4_roundsNeeded yX4_roundsNeeded, Cond.code yX4_roundsNeeded cX4_roundsNeeded 3 (some .int), Cond.methodLink RX4 318 yX2_leastRounds, Cond.instanceMethod yX2_leastRounds, Cond.selects RX2 yX2_leastRounds yX2_leastRounds, Cond.code yX2_leastRounds cX2_leastRounds 8 (some .int)]
def wsX4_arm : List Cond := .code yX4_arm cX4_arm 3 (some .int) :: ((wsX4_arm_r1 ++ (wsX4_arm_r2 ++ (wsX4_arm_r3 ++ wsX4_arm_r4))) ++ wsX40 ++ wsX00 ++ wsX20 ++ (vx_atS RX4 56 "java/lang/IllegalArgumentException" ["java/lang/RuntimeException", "java/lang/Exception"]).filter goodWord ++ (vx_atS RX4 306 "java/lang/IndexOutOfBoundsException" ["java/lang/RuntimeException", "java/lang/Exception"]).filter goodWord)
def wsX4_count : List Cond := .code yX4_count cX4_count 2 (some .int) :: ([.classLink RX4 52 "java/lang/IllegalArgumentException", .initialized "java/lang/IllegalArgumentException", .fieldLink RX4 10 "RestedArms" "now" "LRestedArms$Board;", .fieldLink RX4 140 "RestedArms$Board" "changes" "I", .fieldLink RX4 206 "RestedArms$Board" "last" "I", .fieldLink RX4 22 "RestedArms" "history" "LRestedArms$History;", .fieldLink RX4 175 "RestedArms$History" "count" "I", .methodLink RX4 117 yX0_allPulls, .instanceMethod yX0_allPulls, .selects RX0 yX0_allPulls yX0_allPulls, .initialized RX0, .code yX0_allPulls cX0_allPulls 3 (some .int), .fieldLink RX0 27 "RestedArms$Board" "pulls" "[I", .static yX4_at, .initialized RX4, .code yX4_at cX4_at 2 (some .int)] ++ wsX40 ++ wsX00 ++ wsX10 ++ (vx_atS RX4 56 "java/lang/IllegalArgumentException" ["java/lang/RuntimeException", "java/lang/Exception"]).filter goodWord)
def wsX4_sum : List Cond := .code yX4_sum cX4_sum 2 (some .long) :: ([.classLink RX4 52 "java/lang/IllegalArgumentException", .initialized "java/lang/IllegalArgumentException", .fieldLink RX4 10 "RestedArms" "now" "LRestedArms$Board;", .fieldLink RX4 211 "RestedArms$Board" "brought" "J", .fieldLink RX4 215 "RestedArms$Board" "weight" "J", .fieldLink RX4 218 "RestedArms$Board" "row" "J"] ++ wsX40 ++ wsX00 ++ (vx_atS RX4 56 "java/lang/IllegalArgumentException" ["java/lang/RuntimeException", "java/lang/Exception"]).filter goodWord)
def wsX4_setting : List Cond := .code yX4_setting cX4_setting 2 (some .int) :: ([.fieldLink RX4 10 "RestedArms" "now" "LRestedArms$Board;", .fieldLink RX4 108 "RestedArms$Board" "settings" "[I", .methodLink RX4 97 yX4_needSetting, .static yX4_needSetting, .initialized RX4, .code yX4_needSetting cX4_needSetting 1 none, .classLink RX4 302 "java/lang/IndexOutOfBoundsException", .initialized "java/lang/IndexOutOfBoundsException", .methodLink RX4 48 yX4_isWithin, .static yX4_isWithin, .code yX4_isWithin cX4_isWithin 3 (some .boolean), .methodLink RX4 71 yX4_at, .static yX4_at, .code yX4_at cX4_at 2 (some .int)] ++ wsX40 ++ wsX00 ++ (vx_atS RX4 306 "java/lang/IndexOutOfBoundsException" ["java/lang/RuntimeException", "java/lang/Exception"]).filter goodWord)
def wsX4_choice_r1 : List Cond := [Cond.fieldLink RX4 29 "RestedArms" "indices" "LRestedArms$Indices;", Cond.fieldLink RX4 10 "RestedArms" "now" "LRestedArms$Board;", Cond.methodLink RX4 129 yX4_needRule, Cond.static yX4_needRule, Cond.initialized RX4, Cond.code yX4_needRule cX4_needRule 1 none, Cond.classLink RX4 52 "java/lang/IllegalArgumentException", Cond.initialized "java/lang/IllegalArgumentException", Cond.methodLink RX4 48 yX4_isWithin, Cond.static yX4_isWithin, Cond.code yX4_isWithin cX4_isWithin 3 (some .boolean), Cond.methodLink RX4 137 yX2_refresh, Cond.instanceMethod yX2_refresh, Cond.selects RX2 yX2_refresh yX2_refresh, Cond.initialized RX2, Cond.code yX2_refresh cX2_refresh 4 none, Cond.fieldLink RX2 15 "RestedArms$Indices" "fresh" "[Z", Cond.fieldLink RX2 9 "RestedArms$Indices" "table" "[J", Cond.static yX4_slotOf, Cond.code yX4_slotOf cX4_slotOf 2 (some .int), Cond.methodLink RX2 29 yX2_find, Cond.instanceMethod yX2_find, Cond.selects RX2 yX2_find yX2_find, Cond.code yX2_find cX2_find 6 (some .long)]
def wsX4_choice_r2 : List Cond := [Cond.fieldLink RX2 37 "RestedArms$Board" "settings" "[I", Cond.static yX4_at, Cond.code yX4_at cX4_at 2 (some .int), Cond.methodLink RX2 47 yX2_clearValues, Cond.instanceMethod yX2_clearValues, Cond.selects RX2 yX2_clearValues yX2_clearValues, Cond.code yX2_clearValues cX2_clearValues 2 none, Cond.fieldLink RX2 19 "RestedArms$Indices" "values" "[J", Cond.methodLink RX2 50 yX2_turn, Cond.instanceMethod yX2_turn, Cond.selects RX2 yX2_turn yX2_turn, Cond.code yX2_turn cX2_turn 18 none, Cond.fieldLink RX2 58 "RestedArms$Board" "chances" "[I", Cond.fieldLink RX2 61 "RestedArms$Board" "goods" "[I", Cond.fieldLink RX2 67 "RestedArms$Board" "bads" "[I", Cond.constantLong RX2 70 (8), Cond.constantLong RX2 78 (100), Cond.fieldLink RX2 22 "RestedArms$Indices" "own" "[J", Cond.constantLong RX2 80 (1000), Cond.fieldLink RX2 82 "RestedArms$Board" "gifts" "[I", Cond.methodLink RX2 85 Lib.MathLoose.max_long.x, Cond.static Lib.MathLoose.max_long.x, Cond.initialized "java/lang/Math", Cond.code Lib.MathLoose.max_long.x Lib.MathLoose.max_long.code 4 (some .long)]
def wsX4_choice_r3 : List Cond := [Cond.static yX4_at_, Cond.code yX4_at_ cX4_at_ 2 (some .long), Cond.methodLink RX2 72 yJ9_floorDiv_f86c9, Cond.static yJ9_floorDiv_f86c9, Cond.initialized RJ9, Cond.code yJ9_floorDiv_f86c9 cJ9_floorDiv_f86c9 6 (some .long), Cond.static yX4_store_, Cond.code yX4_store_ cX4_store_ 4 none, Cond.methodLink RX2 54 yX2_indexNow, Cond.instanceMethod yX2_indexNow, Cond.selects RX2 yX2_indexNow yX2_indexNow, Cond.code yX2_indexNow cX2_indexNow 3 (some .long), Cond.methodLink RX4 223 yX4_chosenBy, Cond.instanceMethod yX4_chosenBy, Cond.selects RX4 yX4_chosenBy yX4_chosenBy, Cond.code yX4_chosenBy cX4_chosenBy 3 (some .int), Cond.fieldLink RX4 206 "RestedArms$Board" "last" "I", Cond.methodLink RX4 234 yX4_scoreAll, Cond.instanceMethod yX4_scoreAll, Cond.selects RX4 yX4_scoreAll yX4_scoreAll, Cond.code yX4_scoreAll cX4_scoreAll 7 none, Cond.fieldLink RX4 94 "RestedArms$Board" "places" "[I", Cond.fieldLink RX4 188 "RestedArms$Indices" "table" "[J", Cond.fieldLink RX4 67 "RestedArms$Board" "gifts" "[I"]
def wsX4_choice_r4 : List Cond := [Cond.fieldLink RX4 40 "RestedArms" "scores" "[J", Cond.methodLink RX4 71 yX4_at, Cond.methodLink RX4 63 yX4_slotOf, Cond.methodLink RX4 191 yX4_at_, Cond.methodLink RX4 325 yX0_costOf, Cond.instanceMethod yX0_costOf, Cond.selects RX0 yX0_costOf yX0_costOf, Cond.initialized RX0, Cond.code yX0_costOf cX0_costOf 5 (some .long), Cond.fieldLink RX0 30 "RestedArms$Board" "settings" "[I", Cond.constantLong RX0 70 (10), Cond.methodLink RX0 66 yX0_wouldChange, Cond.instanceMethod yX0_wouldChange, Cond.selects RX0 yX0_wouldChange yX0_wouldChange, Cond.code yX0_wouldChange cX0_wouldChange 2 (some .boolean), Cond.fieldLink RX0 33 "RestedArms$Board" "last" "I", Cond.methodLink RX4 328 yX4_store_, Cond.methodLink RX4 322 yX4_greatestScore, Cond.instanceMethod yX4_greatestScore, Cond.selects RX4 yX4_greatestScore yX4_greatestScore, Cond.code yX4_greatestScore cX4_greatestScore 4 (some .int)]
def wsX4_choice : List Cond := .code yX4_choice cX4_choice 2 (some .int) :: ((wsX4_choice_r1 ++ (wsX4_choice_r2 ++ (wsX4_choice_r3 ++ wsX4_choice_r4))) ++ wsX40 ++ wsX20 ++ wsX00 ++ (vx_atS RX4 56 "java/lang/IllegalArgumentException" ["java/lang/RuntimeException", "java/lang/Exception"]).filter goodWord)
def wsX4_gain_r1 : List Cond := [Cond.fieldLink RX4 29 "RestedArms" "indices" "LRestedArms$Indices;", Cond.fieldLink RX4 10 "RestedArms" "now" "LRestedArms$Board;", Cond.fieldLink RX4 16 "RestedArms" "trial" "LRestedArms$Board;", Cond.fieldLink RX4 211 "RestedArms$Board" "brought" "J", Cond.methodLink RX4 137 yX2_refresh, Cond.instanceMethod yX2_refresh, Cond.selects RX2 yX2_refresh yX2_refresh, Cond.initialized RX2, Cond.code yX2_refresh cX2_refresh 4 none, Cond.fieldLink RX2 15 "RestedArms$Indices" "fresh" "[Z", Cond.fieldLink RX2 9 "RestedArms$Indices" "table" "[J", Cond.static yX4_slotOf, Cond.initialized RX4, Cond.code yX4_slotOf cX4_slotOf 2 (some .int), Cond.methodLink RX2 29 yX2_find, Cond.instanceMethod yX2_find, Cond.selects RX2 yX2_find yX2_find, Cond.code yX2_find cX2_find 6 (some .long), Cond.fieldLink RX2 37 "RestedArms$Board" "settings" "[I", Cond.static yX4_at, Cond.code yX4_at cX4_at 2 (some .int), Cond.methodLink RX2 47 yX2_clearValues, Cond.instanceMethod yX2_clearValues, Cond.selects RX2 yX2_clearValues yX2_clearValues]
def wsX4_gain_r2 : List Cond := [Cond.code yX2_clearValues cX2_clearValues 2 none, Cond.fieldLink RX2 19 "RestedArms$Indices" "values" "[J", Cond.methodLink RX2 50 yX2_turn, Cond.instanceMethod yX2_turn, Cond.selects RX2 yX2_turn yX2_turn, Cond.code yX2_turn cX2_turn 18 none, Cond.fieldLink RX2 58 "RestedArms$Board" "chances" "[I", Cond.fieldLink RX2 61 "RestedArms$Board" "goods" "[I", Cond.fieldLink RX2 67 "RestedArms$Board" "bads" "[I", Cond.constantLong RX2 70 (8), Cond.constantLong RX2 78 (100), Cond.fieldLink RX2 22 "RestedArms$Indices" "own" "[J", Cond.constantLong RX2 80 (1000), Cond.fieldLink RX2 82 "RestedArms$Board" "gifts" "[I", Cond.methodLink RX2 85 Lib.MathLoose.max_long.x, Cond.static Lib.MathLoose.max_long.x, Cond.initialized "java/lang/Math", Cond.code Lib.MathLoose.max_long.x Lib.MathLoose.max_long.code 4 (some .long), Cond.static yX4_at_, Cond.code yX4_at_ cX4_at_ 2 (some .long), Cond.methodLink RX2 72 yJ9_floorDiv_f86c9, Cond.static yJ9_floorDiv_f86c9, Cond.initialized RJ9, Cond.code yJ9_floorDiv_f86c9 cJ9_floorDiv_f86c9 6 (some .long)]
def wsX4_gain_r3 : List Cond := [Cond.static yX4_store_, Cond.code yX4_store_ cX4_store_ 4 none, Cond.methodLink RX2 54 yX2_indexNow, Cond.instanceMethod yX2_indexNow, Cond.selects RX2 yX2_indexNow yX2_indexNow, Cond.code yX2_indexNow cX2_indexNow 3 (some .long), Cond.methodLink RX4 231 yX0_copy, Cond.instanceMethod yX0_copy, Cond.selects RX0 yX0_copy yX0_copy, Cond.initialized RX0, Cond.code yX0_copy cX0_copy 2 none, Cond.fieldLink RX0 9 "RestedArms$Board" "gifts" "[I", Cond.methodLink RX0 46 arraycopyName, Cond.native arraycopyName, Cond.static arraycopyName, Cond.initialized "java/lang/System", Cond.fieldLink RX0 15 "RestedArms$Board" "goods" "[I", Cond.fieldLink RX0 18 "RestedArms$Board" "bads" "[I", Cond.fieldLink RX0 21 "RestedArms$Board" "chances" "[I", Cond.fieldLink RX0 24 "RestedArms$Board" "places" "[I", Cond.fieldLink RX0 27 "RestedArms$Board" "pulls" "[I", Cond.fieldLink RX0 30 "RestedArms$Board" "settings" "[I", Cond.fieldLink RX0 52 "RestedArms$Board" "changes" "I", Cond.fieldLink RX0 33 "RestedArms$Board" "last" "I"]
def wsX4_gain_r4 : List Cond := [Cond.fieldLink RX0 55 "RestedArms$Board" "brought" "J", Cond.fieldLink RX0 39 "RestedArms$Board" "weight" "J", Cond.fieldLink RX0 43 "RestedArms$Board" "row" "J", Cond.methodLink RX4 144 yX4_playOn, Cond.instanceMethod yX4_playOn, Cond.selects RX4 yX4_playOn yX4_playOn, Cond.code yX4_playOn cX4_playOn 5 none, Cond.methodLink RX4 223 yX4_chosenBy, Cond.instanceMethod yX4_chosenBy, Cond.selects RX4 yX4_chosenBy yX4_chosenBy, Cond.code yX4_chosenBy cX4_chosenBy 3 (some .int), Cond.fieldLink RX4 206 "RestedArms$Board" "last" "I", Cond.methodLink RX4 234 yX4_scoreAll, Cond.instanceMethod yX4_scoreAll, Cond.selects RX4 yX4_scoreAll yX4_scoreAll, Cond.code yX4_scoreAll cX4_scoreAll 7 none, Cond.fieldLink RX4 94 "RestedArms$Board" "places" "[I", Cond.fieldLink RX4 188 "RestedArms$Indices" "table" "[J", Cond.fieldLink RX4 67 "RestedArms$Board" "gifts" "[I", Cond.fieldLink RX4 40 "RestedArms" "scores" "[J", Cond.methodLink RX4 71 yX4_at, Cond.methodLink RX4 63 yX4_slotOf, Cond.methodLink RX4 191 yX4_at_, Cond.methodLink RX4 325 yX0_costOf]
def wsX4_gain_r5 : List Cond := [Cond.instanceMethod yX0_costOf, Cond.selects RX0 yX0_costOf yX0_costOf, Cond.code yX0_costOf cX0_costOf 5 (some .long), Cond.constantLong RX0 70 (10), Cond.methodLink RX0 66 yX0_wouldChange, Cond.instanceMethod yX0_wouldChange, Cond.selects RX0 yX0_wouldChange yX0_wouldChange, Cond.code yX0_wouldChange cX0_wouldChange 2 (some .boolean), Cond.methodLink RX4 328 yX4_store_, Cond.methodLink RX4 322 yX4_greatestScore, Cond.instanceMethod yX4_greatestScore, Cond.selects RX4 yX4_greatestScore yX4_greatestScore, Cond.code yX4_greatestScore cX4_greatestScore 4 (some .int), Cond.methodLink RX4 48 yX4_isWithin, Cond.static yX4_isWithin, Cond.code yX4_isWithin cX4_isWithin 3 (some .boolean), Cond.methodLink RX4 126 yX0_pullOnce, Cond.instanceMethod yX0_pullOnce, Cond.selects RX0 yX0_pullOnce yX0_pullOnce, Cond.code yX0_pullOnce cX0_pullOnce 5 none, Cond.constantLong RX0 72 (1000), Cond.constantLong RX0 37 (1000000), Cond.constantLong RX0 84 (100), Cond.methodLink RX0 78 yJ9_floorDiv_f86c9]
def wsX4_gain_r6 : List Cond := [Cond.static yX4_store, Cond.code yX4_store cX4_store 3 none, Cond.methodLink RX0 86 yX0_goOn, Cond.instanceMethod yX0_goOn, Cond.selects RX0 yX0_goOn yX0_goOn, Cond.code yX0_goOn cX0_goOn 4 none, Cond.constantLong RX0 90 (6364136223846793005), Cond.constantLong RX0 92 (1442695040888963407)]
def wsX4_gain : List Cond := .code yX4_gain cX4_gain 3 (some .long) :: ((wsX4_gain_r1 ++ (wsX4_gain_r2 ++ (wsX4_gain_r3 ++ (wsX4_gain_r4 ++ (wsX4_gain_r5 ++ wsX4_gain_r6))))) ++ wsX40 ++ wsX00 ++ wsX20)
def wsX4_ifPlayed_r1 : List Cond := [Cond.methodLink RX4 129 yX4_needRule, Cond.static yX4_needRule, Cond.initialized RX4, Cond.code yX4_needRule cX4_needRule 1 none, Cond.classLink RX4 52 "java/lang/IllegalArgumentException", Cond.initialized "java/lang/IllegalArgumentException", Cond.methodLink RX4 48 yX4_isWithin, Cond.static yX4_isWithin, Cond.code yX4_isWithin cX4_isWithin 3 (some .boolean), Cond.methodLink RX4 132 yX4_needPulls, Cond.static yX4_needPulls, Cond.code yX4_needPulls cX4_needPulls 1 none, Cond.methodLink RX4 227 yX4_gain, Cond.instanceMethod yX4_gain, Cond.selects RX4 yX4_gain yX4_gain, Cond.code yX4_gain cX4_gain 3 (some .long), Cond.fieldLink RX4 29 "RestedArms" "indices" "LRestedArms$Indices;", Cond.fieldLink RX4 10 "RestedArms" "now" "LRestedArms$Board;", Cond.fieldLink RX4 16 "RestedArms" "trial" "LRestedArms$Board;", Cond.fieldLink RX4 211 "RestedArms$Board" "brought" "J", Cond.methodLink RX4 137 yX2_refresh, Cond.instanceMethod yX2_refresh, Cond.selects RX2 yX2_refresh yX2_refresh, Cond.initialized RX2]
def wsX4_ifPlayed_r2 : List Cond := [Cond.code yX2_refresh cX2_refresh 4 none, Cond.fieldLink RX2 15 "RestedArms$Indices" "fresh" "[Z", Cond.fieldLink RX2 9 "RestedArms$Indices" "table" "[J", Cond.static yX4_slotOf, Cond.code yX4_slotOf cX4_slotOf 2 (some .int), Cond.methodLink RX2 29 yX2_find, Cond.instanceMethod yX2_find, Cond.selects RX2 yX2_find yX2_find, Cond.code yX2_find cX2_find 6 (some .long), Cond.fieldLink RX2 37 "RestedArms$Board" "settings" "[I", Cond.static yX4_at, Cond.code yX4_at cX4_at 2 (some .int), Cond.methodLink RX2 47 yX2_clearValues, Cond.instanceMethod yX2_clearValues, Cond.selects RX2 yX2_clearValues yX2_clearValues, Cond.code yX2_clearValues cX2_clearValues 2 none, Cond.fieldLink RX2 19 "RestedArms$Indices" "values" "[J", Cond.methodLink RX2 50 yX2_turn, Cond.instanceMethod yX2_turn, Cond.selects RX2 yX2_turn yX2_turn, Cond.code yX2_turn cX2_turn 18 none, Cond.fieldLink RX2 58 "RestedArms$Board" "chances" "[I", Cond.fieldLink RX2 61 "RestedArms$Board" "goods" "[I", Cond.fieldLink RX2 67 "RestedArms$Board" "bads" "[I"]
def wsX4_ifPlayed_r3 : List Cond := [Cond.constantLong RX2 70 (8), Cond.constantLong RX2 78 (100), Cond.fieldLink RX2 22 "RestedArms$Indices" "own" "[J", Cond.constantLong RX2 80 (1000), Cond.fieldLink RX2 82 "RestedArms$Board" "gifts" "[I", Cond.methodLink RX2 85 Lib.MathLoose.max_long.x, Cond.static Lib.MathLoose.max_long.x, Cond.initialized "java/lang/Math", Cond.code Lib.MathLoose.max_long.x Lib.MathLoose.max_long.code 4 (some .long), Cond.static yX4_at_, Cond.code yX4_at_ cX4_at_ 2 (some .long), Cond.methodLink RX2 72 yJ9_floorDiv_f86c9, Cond.static yJ9_floorDiv_f86c9, Cond.initialized RJ9, Cond.code yJ9_floorDiv_f86c9 cJ9_floorDiv_f86c9 6 (some .long), Cond.static yX4_store_, Cond.code yX4_store_ cX4_store_ 4 none, Cond.methodLink RX2 54 yX2_indexNow, Cond.instanceMethod yX2_indexNow, Cond.selects RX2 yX2_indexNow yX2_indexNow, Cond.code yX2_indexNow cX2_indexNow 3 (some .long), Cond.methodLink RX4 231 yX0_copy, Cond.instanceMethod yX0_copy, Cond.selects RX0 yX0_copy yX0_copy]
def wsX4_ifPlayed_r4 : List Cond := [Cond.initialized RX0, Cond.code yX0_copy cX0_copy 2 none, Cond.fieldLink RX0 9 "RestedArms$Board" "gifts" "[I", Cond.methodLink RX0 46 arraycopyName, Cond.native arraycopyName, Cond.static arraycopyName, Cond.initialized "java/lang/System", Cond.fieldLink RX0 15 "RestedArms$Board" "goods" "[I", Cond.fieldLink RX0 18 "RestedArms$Board" "bads" "[I", Cond.fieldLink RX0 21 "RestedArms$Board" "chances" "[I", Cond.fieldLink RX0 24 "RestedArms$Board" "places" "[I", Cond.fieldLink RX0 27 "RestedArms$Board" "pulls" "[I", Cond.fieldLink RX0 30 "RestedArms$Board" "settings" "[I", Cond.fieldLink RX0 52 "RestedArms$Board" "changes" "I", Cond.fieldLink RX0 33 "RestedArms$Board" "last" "I", Cond.fieldLink RX0 55 "RestedArms$Board" "brought" "J", Cond.fieldLink RX0 39 "RestedArms$Board" "weight" "J", Cond.fieldLink RX0 43 "RestedArms$Board" "row" "J", Cond.methodLink RX4 144 yX4_playOn, Cond.instanceMethod yX4_playOn, Cond.selects RX4 yX4_playOn yX4_playOn, Cond.code yX4_playOn cX4_playOn 5 none, Cond.methodLink RX4 223 yX4_chosenBy, Cond.instanceMethod yX4_chosenBy]
def wsX4_ifPlayed_r5 : List Cond := [Cond.selects RX4 yX4_chosenBy yX4_chosenBy, Cond.code yX4_chosenBy cX4_chosenBy 3 (some .int), Cond.fieldLink RX4 206 "RestedArms$Board" "last" "I", Cond.methodLink RX4 234 yX4_scoreAll, Cond.instanceMethod yX4_scoreAll, Cond.selects RX4 yX4_scoreAll yX4_scoreAll, Cond.code yX4_scoreAll cX4_scoreAll 7 none, Cond.fieldLink RX4 94 "RestedArms$Board" "places" "[I", Cond.fieldLink RX4 188 "RestedArms$Indices" "table" "[J", Cond.fieldLink RX4 67 "RestedArms$Board" "gifts" "[I", Cond.fieldLink RX4 40 "RestedArms" "scores" "[J", Cond.methodLink RX4 71 yX4_at, Cond.methodLink RX4 63 yX4_slotOf, Cond.methodLink RX4 191 yX4_at_, Cond.methodLink RX4 325 yX0_costOf, Cond.instanceMethod yX0_costOf, Cond.selects RX0 yX0_costOf yX0_costOf, Cond.code yX0_costOf cX0_costOf 5 (some .long), Cond.constantLong RX0 70 (10), Cond.methodLink RX0 66 yX0_wouldChange, Cond.instanceMethod yX0_wouldChange, Cond.selects RX0 yX0_wouldChange yX0_wouldChange, Cond.code yX0_wouldChange cX0_wouldChange 2 (some .boolean), Cond.methodLink RX4 328 yX4_store_]
def wsX4_ifPlayed_r6 : List Cond := [Cond.methodLink RX4 322 yX4_greatestScore, Cond.instanceMethod yX4_greatestScore, Cond.selects RX4 yX4_greatestScore yX4_greatestScore, Cond.code yX4_greatestScore cX4_greatestScore 4 (some .int), Cond.methodLink RX4 126 yX0_pullOnce, Cond.instanceMethod yX0_pullOnce, Cond.selects RX0 yX0_pullOnce yX0_pullOnce, Cond.code yX0_pullOnce cX0_pullOnce 5 none, Cond.constantLong RX0 72 (1000), Cond.constantLong RX0 37 (1000000), Cond.constantLong RX0 84 (100), Cond.methodLink RX0 78 yJ9_floorDiv_f86c9, Cond.static yX4_store, Cond.code yX4_store cX4_store 3 none, Cond.methodLink RX0 86 yX0_goOn, Cond.instanceMethod yX0_goOn, Cond.selects RX0 yX0_goOn yX0_goOn, Cond.code yX0_goOn cX0_goOn 4 none, Cond.constantLong RX0 90 (6364136223846793005), Cond.constantLong RX0 92 (1442695040888963407)]
def wsX4_ifPlayed : List Cond := .code yX4_ifPlayed cX4_ifPlayed 3 (some .long) :: ((wsX4_ifPlayed_r1 ++ (wsX4_ifPlayed_r2 ++ (wsX4_ifPlayed_r3 ++ (wsX4_ifPlayed_r4 ++ (wsX4_ifPlayed_r5 ++ wsX4_ifPlayed_r6))))) ++ wsX40 ++ wsX00 ++ wsX20 ++ (vx_atS RX4 56 "java/lang/IllegalArgumentException" ["java/lang/RuntimeException", "java/lang/Exception"]).filter goodWord)
def wsX4_bestRule_r1 : List Cond := [Cond.methodLink RX4 132 yX4_needPulls, Cond.static yX4_needPulls, Cond.initialized RX4, Cond.code yX4_needPulls cX4_needPulls 1 none, Cond.classLink RX4 52 "java/lang/IllegalArgumentException", Cond.initialized "java/lang/IllegalArgumentException", Cond.methodLink RX4 48 yX4_isWithin, Cond.static yX4_isWithin, Cond.code yX4_isWithin cX4_isWithin 3 (some .boolean), Cond.methodLink RX4 227 yX4_gain, Cond.instanceMethod yX4_gain, Cond.selects RX4 yX4_gain yX4_gain, Cond.code yX4_gain cX4_gain 3 (some .long), Cond.fieldLink RX4 29 "RestedArms" "indices" "LRestedArms$Indices;", Cond.fieldLink RX4 10 "RestedArms" "now" "LRestedArms$Board;", Cond.fieldLink RX4 16 "RestedArms" "trial" "LRestedArms$Board;", Cond.fieldLink RX4 211 "RestedArms$Board" "brought" "J", Cond.methodLink RX4 137 yX2_refresh, Cond.instanceMethod yX2_refresh, Cond.selects RX2 yX2_refresh yX2_refresh, Cond.initialized RX2, Cond.code yX2_refresh cX2_refresh 4 none, Cond.fieldLink RX2 15 "RestedArms$Indices" "fresh" "[Z", Cond.fieldLink RX2 9 "RestedArms$Indices" "table" "[J"]
def wsX4_bestRule_r2 : List Cond := [Cond.static yX4_slotOf, Cond.code yX4_slotOf cX4_slotOf 2 (some .int), Cond.methodLink RX2 29 yX2_find, Cond.instanceMethod yX2_find, Cond.selects RX2 yX2_find yX2_find, Cond.code yX2_find cX2_find 6 (some .long), Cond.fieldLink RX2 37 "RestedArms$Board" "settings" "[I", Cond.static yX4_at, Cond.code yX4_at cX4_at 2 (some .int), Cond.methodLink RX2 47 yX2_clearValues, Cond.instanceMethod yX2_clearValues, Cond.selects RX2 yX2_clearValues yX2_clearValues, Cond.code yX2_clearValues cX2_clearValues 2 none, Cond.fieldLink RX2 19 "RestedArms$Indices" "values" "[J", Cond.methodLink RX2 50 yX2_turn, Cond.instanceMethod yX2_turn, Cond.selects RX2 yX2_turn yX2_turn, Cond.code yX2_turn cX2_turn 18 none, Cond.fieldLink RX2 58 "RestedArms$Board" "chances" "[I", Cond.fieldLink RX2 61 "RestedArms$Board" "goods" "[I", Cond.fieldLink RX2 67 "RestedArms$Board" "bads" "[I", Cond.constantLong RX2 70 (8), Cond.constantLong RX2 78 (100), Cond.fieldLink RX2 22 "RestedArms$Indices" "own" "[J"]
def wsX4_bestRule_r3 : List Cond := [Cond.constantLong RX2 80 (1000), Cond.fieldLink RX2 82 "RestedArms$Board" "gifts" "[I", Cond.methodLink RX2 85 Lib.MathLoose.max_long.x, Cond.static Lib.MathLoose.max_long.x, Cond.initialized "java/lang/Math", Cond.code Lib.MathLoose.max_long.x Lib.MathLoose.max_long.code 4 (some .long), Cond.static yX4_at_, Cond.code yX4_at_ cX4_at_ 2 (some .long), Cond.methodLink RX2 72 yJ9_floorDiv_f86c9, Cond.static yJ9_floorDiv_f86c9, Cond.initialized RJ9, Cond.code yJ9_floorDiv_f86c9 cJ9_floorDiv_f86c9 6 (some .long), Cond.static yX4_store_, Cond.code yX4_store_ cX4_store_ 4 none, Cond.methodLink RX2 54 yX2_indexNow, Cond.instanceMethod yX2_indexNow, Cond.selects RX2 yX2_indexNow yX2_indexNow, Cond.code yX2_indexNow cX2_indexNow 3 (some .long), Cond.methodLink RX4 231 yX0_copy, Cond.instanceMethod yX0_copy, Cond.selects RX0 yX0_copy yX0_copy, Cond.initialized RX0, Cond.code yX0_copy cX0_copy 2 none, Cond.fieldLink RX0 9 "RestedArms$Board" "gifts" "[I"]
def wsX4_bestRule_r4 : List Cond := [Cond.methodLink RX0 46 arraycopyName, Cond.native arraycopyName, Cond.static arraycopyName, Cond.initialized "java/lang/System", Cond.fieldLink RX0 15 "RestedArms$Board" "goods" "[I", Cond.fieldLink RX0 18 "RestedArms$Board" "bads" "[I", Cond.fieldLink RX0 21 "RestedArms$Board" "chances" "[I", Cond.fieldLink RX0 24 "RestedArms$Board" "places" "[I", Cond.fieldLink RX0 27 "RestedArms$Board" "pulls" "[I", Cond.fieldLink RX0 30 "RestedArms$Board" "settings" "[I", Cond.fieldLink RX0 52 "RestedArms$Board" "changes" "I", Cond.fieldLink RX0 33 "RestedArms$Board" "last" "I", Cond.fieldLink RX0 55 "RestedArms$Board" "brought" "J", Cond.fieldLink RX0 39 "RestedArms$Board" "weight" "J", Cond.fieldLink RX0 43 "RestedArms$Board" "row" "J", Cond.methodLink RX4 144 yX4_playOn, Cond.instanceMethod yX4_playOn, Cond.selects RX4 yX4_playOn yX4_playOn, Cond.code yX4_playOn cX4_playOn 5 none, Cond.methodLink RX4 223 yX4_chosenBy, Cond.instanceMethod yX4_chosenBy, Cond.selects RX4 yX4_chosenBy yX4_chosenBy, Cond.code yX4_chosenBy cX4_chosenBy 3 (some .int), Cond.fieldLink RX4 206 "RestedArms$Board" "last" "I"]
def wsX4_bestRule_r5 : List Cond := [Cond.methodLink RX4 234 yX4_scoreAll, Cond.instanceMethod yX4_scoreAll, Cond.selects RX4 yX4_scoreAll yX4_scoreAll, Cond.code yX4_scoreAll cX4_scoreAll 7 none, Cond.fieldLink RX4 94 "RestedArms$Board" "places" "[I", Cond.fieldLink RX4 188 "RestedArms$Indices" "table" "[J", Cond.fieldLink RX4 67 "RestedArms$Board" "gifts" "[I", Cond.fieldLink RX4 40 "RestedArms" "scores" "[J", Cond.methodLink RX4 71 yX4_at, Cond.methodLink RX4 63 yX4_slotOf, Cond.methodLink RX4 191 yX4_at_, Cond.methodLink RX4 325 yX0_costOf, Cond.instanceMethod yX0_costOf, Cond.selects RX0 yX0_costOf yX0_costOf, Cond.code yX0_costOf cX0_costOf 5 (some .long), Cond.constantLong RX0 70 (10), Cond.methodLink RX0 66 yX0_wouldChange, Cond.instanceMethod yX0_wouldChange, Cond.selects RX0 yX0_wouldChange yX0_wouldChange, Cond.code yX0_wouldChange cX0_wouldChange 2 (some .boolean), Cond.methodLink RX4 328 yX4_store_, Cond.methodLink RX4 322 yX4_greatestScore, Cond.instanceMethod yX4_greatestScore, Cond.selects RX4 yX4_greatestScore yX4_greatestScore]
def wsX4_bestRule_r6 : List Cond := [Cond.code yX4_greatestScore cX4_greatestScore 4 (some .int), Cond.methodLink RX4 126 yX0_pullOnce, Cond.instanceMethod yX0_pullOnce, Cond.selects RX0 yX0_pullOnce yX0_pullOnce, Cond.code yX0_pullOnce cX0_pullOnce 5 none, Cond.constantLong RX0 72 (1000), Cond.constantLong RX0 37 (1000000), Cond.constantLong RX0 84 (100), Cond.methodLink RX0 78 yJ9_floorDiv_f86c9, Cond.static yX4_store, Cond.code yX4_store cX4_store 3 none, Cond.methodLink RX0 86 yX0_goOn, Cond.instanceMethod yX0_goOn, Cond.selects RX0 yX0_goOn yX0_goOn, Cond.code yX0_goOn cX0_goOn 4 none, Cond.constantLong RX0 90 (6364136223846793005), Cond.constantLong RX0 92 (1442695040888963407)]
def wsX4_bestRule : List Cond := .code yX4_bestRule cX4_bestRule 8 (some .int) :: ((wsX4_bestRule_r1 ++ (wsX4_bestRule_r2 ++ (wsX4_bestRule_r3 ++ (wsX4_bestRule_r4 ++ (wsX4_bestRule_r5 ++ wsX4_bestRule_r6))))) ++ wsX40 ++ wsX00 ++ wsX20 ++ (vx_atS RX4 56 "java/lang/IllegalArgumentException" ["java/lang/RuntimeException", "java/lang/Exception"]).filter goodWord)
def wsX4_wouldChoose_r1 : List Cond := [Cond.fieldLink RX4 16 "RestedArms" "trial" "LRestedArms$Board;", Cond.fieldLink RX4 67 "RestedArms$Board" "gifts" "[I", Cond.fieldLink RX4 29 "RestedArms" "indices" "LRestedArms$Indices;", Cond.fieldLink RX4 40 "RestedArms" "scores" "[J", Cond.fieldLink RX4 206 "RestedArms$Board" "last" "I", Cond.methodLink RX4 63 yX4_slotOf, Cond.static yX4_slotOf, Cond.initialized RX4, Cond.code yX4_slotOf cX4_slotOf 2 (some .int), Cond.methodLink RX4 75 yX4_store, Cond.static yX4_store, Cond.code yX4_store cX4_store 3 none, Cond.methodLink RX4 331 yX2_find, Cond.instanceMethod yX2_find, Cond.selects RX2 yX2_find yX2_find, Cond.initialized RX2, Cond.code yX2_find cX2_find 6 (some .long), Cond.fieldLink RX2 37 "RestedArms$Board" "settings" "[I", Cond.static yX4_at, Cond.code yX4_at cX4_at 2 (some .int), Cond.methodLink RX2 47 yX2_clearValues, Cond.instanceMethod yX2_clearValues, Cond.selects RX2 yX2_clearValues yX2_clearValues, Cond.code yX2_clearValues cX2_clearValues 2 none]
def wsX4_wouldChoose_r2 : List Cond := [Cond.fieldLink RX2 19 "RestedArms$Indices" "values" "[J", Cond.methodLink RX2 50 yX2_turn, Cond.instanceMethod yX2_turn, Cond.selects RX2 yX2_turn yX2_turn, Cond.code yX2_turn cX2_turn 18 none, Cond.fieldLink RX2 58 "RestedArms$Board" "chances" "[I", Cond.fieldLink RX2 61 "RestedArms$Board" "goods" "[I", Cond.fieldLink RX2 67 "RestedArms$Board" "bads" "[I", Cond.constantLong RX2 70 (8), Cond.constantLong RX2 78 (100), Cond.fieldLink RX2 22 "RestedArms$Indices" "own" "[J", Cond.constantLong RX2 80 (1000), Cond.fieldLink RX2 82 "RestedArms$Board" "gifts" "[I", Cond.methodLink RX2 85 Lib.MathLoose.max_long.x, Cond.static Lib.MathLoose.max_long.x, Cond.initialized "java/lang/Math", Cond.code Lib.MathLoose.max_long.x Lib.MathLoose.max_long.code 4 (some .long), Cond.static yX4_at_, Cond.code yX4_at_ cX4_at_ 2 (some .long), Cond.methodLink RX2 72 yJ9_floorDiv_f86c9, Cond.static yJ9_floorDiv_f86c9, Cond.initialized RJ9, Cond.code yJ9_floorDiv_f86c9 cJ9_floorDiv_f86c9 6 (some .long), Cond.static yX4_store_]
def wsX4_wouldChoose_r3 : List Cond := [Cond.code yX4_store_ cX4_store_ 4 none, Cond.methodLink RX2 54 yX2_indexNow, Cond.instanceMethod yX2_indexNow, Cond.selects RX2 yX2_indexNow yX2_indexNow, Cond.code yX2_indexNow cX2_indexNow 3 (some .long), Cond.methodLink RX4 325 yX0_costOf, Cond.instanceMethod yX0_costOf, Cond.selects RX0 yX0_costOf yX0_costOf, Cond.initialized RX0, Cond.code yX0_costOf cX0_costOf 5 (some .long), Cond.fieldLink RX0 30 "RestedArms$Board" "settings" "[I", Cond.constantLong RX0 70 (10), Cond.methodLink RX0 66 yX0_wouldChange, Cond.instanceMethod yX0_wouldChange, Cond.selects RX0 yX0_wouldChange yX0_wouldChange, Cond.code yX0_wouldChange cX0_wouldChange 2 (some .boolean), Cond.fieldLink RX0 33 "RestedArms$Board" "last" "I", Cond.methodLink RX4 328 yX4_store_, Cond.methodLink RX4 322 yX4_greatestScore, Cond.instanceMethod yX4_greatestScore, Cond.selects RX4 yX4_greatestScore yX4_greatestScore, Cond.code yX4_greatestScore cX4_greatestScore 4 (some .int), Cond.methodLink RX4 48 yX4_isWithin, Cond.static yX4_isWithin]
def wsX4_wouldChoose_r4 : List Cond := [Cond.code yX4_isWithin cX4_isWithin 3 (some .boolean), Cond.methodLink RX4 191 yX4_at_]
def wsX4_wouldChoose : List Cond := .code yX4_wouldChoose cX4_wouldChoose 6 (some .boolean) :: ((wsX4_wouldChoose_r1 ++ (wsX4_wouldChoose_r2 ++ (wsX4_wouldChoose_r3 ++ wsX4_wouldChoose_r4))) ++ wsX40 ++ wsX00 ++ wsX20)
def wsX4_giftFor_r1 : List Cond := [Cond.fieldLink RX4 29 "RestedArms" "indices" "LRestedArms$Indices;", Cond.fieldLink RX4 10 "RestedArms" "now" "LRestedArms$Board;", Cond.fieldLink RX4 16 "RestedArms" "trial" "LRestedArms$Board;", Cond.methodLink RX4 44 yX4_needState, Cond.static yX4_needState, Cond.initialized RX4, Cond.code yX4_needState cX4_needState 2 none, Cond.classLink RX4 302 "java/lang/IndexOutOfBoundsException", Cond.initialized "java/lang/IndexOutOfBoundsException", Cond.methodLink RX4 48 yX4_isWithin, Cond.static yX4_isWithin, Cond.code yX4_isWithin cX4_isWithin 3 (some .boolean), Cond.methodLink RX4 137 yX2_refresh, Cond.instanceMethod yX2_refresh, Cond.selects RX2 yX2_refresh yX2_refresh, Cond.initialized RX2, Cond.code yX2_refresh cX2_refresh 4 none, Cond.fieldLink RX2 15 "RestedArms$Indices" "fresh" "[Z", Cond.fieldLink RX2 9 "RestedArms$Indices" "table" "[J", Cond.static yX4_slotOf, Cond.code yX4_slotOf cX4_slotOf 2 (some .int), Cond.methodLink RX2 29 yX2_find, Cond.instanceMethod yX2_find, Cond.selects RX2 yX2_find yX2_find]
def wsX4_giftFor_r2 : List Cond := [Cond.code yX2_find cX2_find 6 (some .long), Cond.fieldLink RX2 37 "RestedArms$Board" "settings" "[I", Cond.static yX4_at, Cond.code yX4_at cX4_at 2 (some .int), Cond.methodLink RX2 47 yX2_clearValues, Cond.instanceMethod yX2_clearValues, Cond.selects RX2 yX2_clearValues yX2_clearValues, Cond.code yX2_clearValues cX2_clearValues 2 none, Cond.fieldLink RX2 19 "RestedArms$Indices" "values" "[J", Cond.methodLink RX2 50 yX2_turn, Cond.instanceMethod yX2_turn, Cond.selects RX2 yX2_turn yX2_turn, Cond.code yX2_turn cX2_turn 18 none, Cond.fieldLink RX2 58 "RestedArms$Board" "chances" "[I", Cond.fieldLink RX2 61 "RestedArms$Board" "goods" "[I", Cond.fieldLink RX2 67 "RestedArms$Board" "bads" "[I", Cond.constantLong RX2 70 (8), Cond.constantLong RX2 78 (100), Cond.fieldLink RX2 22 "RestedArms$Indices" "own" "[J", Cond.constantLong RX2 80 (1000), Cond.fieldLink RX2 82 "RestedArms$Board" "gifts" "[I", Cond.methodLink RX2 85 Lib.MathLoose.max_long.x, Cond.static Lib.MathLoose.max_long.x, Cond.initialized "java/lang/Math"]
def wsX4_giftFor_r3 : List Cond := [Cond.code Lib.MathLoose.max_long.x Lib.MathLoose.max_long.code 4 (some .long), Cond.static yX4_at_, Cond.code yX4_at_ cX4_at_ 2 (some .long), Cond.methodLink RX2 72 yJ9_floorDiv_f86c9, Cond.static yJ9_floorDiv_f86c9, Cond.initialized RJ9, Cond.code yJ9_floorDiv_f86c9 cJ9_floorDiv_f86c9 6 (some .long), Cond.static yX4_store_, Cond.code yX4_store_ cX4_store_ 4 none, Cond.methodLink RX2 54 yX2_indexNow, Cond.instanceMethod yX2_indexNow, Cond.selects RX2 yX2_indexNow yX2_indexNow, Cond.code yX2_indexNow cX2_indexNow 3 (some .long), Cond.methodLink RX4 231 yX0_copy, Cond.instanceMethod yX0_copy, Cond.selects RX0 yX0_copy yX0_copy, Cond.initialized RX0, Cond.code yX0_copy cX0_copy 2 none, Cond.fieldLink RX0 9 "RestedArms$Board" "gifts" "[I", Cond.methodLink RX0 46 arraycopyName, Cond.native arraycopyName, Cond.static arraycopyName, Cond.initialized "java/lang/System", Cond.fieldLink RX0 15 "RestedArms$Board" "goods" "[I"]
def wsX4_giftFor_r4 : List Cond := [Cond.fieldLink RX0 18 "RestedArms$Board" "bads" "[I", Cond.fieldLink RX0 21 "RestedArms$Board" "chances" "[I", Cond.fieldLink RX0 24 "RestedArms$Board" "places" "[I", Cond.fieldLink RX0 27 "RestedArms$Board" "pulls" "[I", Cond.fieldLink RX0 30 "RestedArms$Board" "settings" "[I", Cond.fieldLink RX0 52 "RestedArms$Board" "changes" "I", Cond.fieldLink RX0 33 "RestedArms$Board" "last" "I", Cond.fieldLink RX0 55 "RestedArms$Board" "brought" "J", Cond.fieldLink RX0 39 "RestedArms$Board" "weight" "J", Cond.fieldLink RX0 43 "RestedArms$Board" "row" "J", Cond.methodLink RX4 234 yX4_scoreAll, Cond.instanceMethod yX4_scoreAll, Cond.selects RX4 yX4_scoreAll yX4_scoreAll, Cond.code yX4_scoreAll cX4_scoreAll 7 none, Cond.fieldLink RX4 94 "RestedArms$Board" "places" "[I", Cond.fieldLink RX4 188 "RestedArms$Indices" "table" "[J", Cond.fieldLink RX4 67 "RestedArms$Board" "gifts" "[I", Cond.fieldLink RX4 40 "RestedArms" "scores" "[J", Cond.methodLink RX4 71 yX4_at, Cond.methodLink RX4 63 yX4_slotOf, Cond.methodLink RX4 191 yX4_at_, Cond.methodLink RX4 325 yX0_costOf, Cond.instanceMethod yX0_costOf, Cond.selects RX0 yX0_costOf yX0_costOf]
def wsX4_giftFor_r5 : List Cond := [Cond.code yX0_costOf cX0_costOf 5 (some .long), Cond.constantLong RX0 70 (10), Cond.methodLink RX0 66 yX0_wouldChange, Cond.instanceMethod yX0_wouldChange, Cond.selects RX0 yX0_wouldChange yX0_wouldChange, Cond.code yX0_wouldChange cX0_wouldChange 2 (some .boolean), Cond.methodLink RX4 328 yX4_store_, Cond.methodLink RX4 238 yX4_wouldChoose, Cond.instanceMethod yX4_wouldChoose, Cond.selects RX4 yX4_wouldChoose yX4_wouldChoose, Cond.code yX4_wouldChoose cX4_wouldChoose 6 (some .boolean), Cond.fieldLink RX4 206 "RestedArms$Board" "last" "I", Cond.methodLink RX4 75 yX4_store, Cond.static yX4_store, Cond.code yX4_store cX4_store 3 none, Cond.methodLink RX4 331 yX2_find, Cond.methodLink RX4 322 yX4_greatestScore, Cond.instanceMethod yX4_greatestScore, Cond.selects RX4 yX4_greatestScore yX4_greatestScore, Cond.code yX4_greatestScore cX4_greatestScore 4 (some .int)]
def wsX4_giftFor : List Cond := .code yX4_giftFor cX4_giftFor 7 (some .int) :: ((wsX4_giftFor_r1 ++ (wsX4_giftFor_r2 ++ (wsX4_giftFor_r3 ++ (wsX4_giftFor_r4 ++ wsX4_giftFor_r5)))) ++ wsX40 ++ wsX20 ++ wsX00 ++ (vx_atS RX4 306 "java/lang/IndexOutOfBoundsException" ["java/lang/RuntimeException", "java/lang/Exception"]).filter goodWord)
def wsX4_evenness : List Cond := .code yX4_evenness cX4_evenness 4 (some .double) :: ([.fieldLink RX4 10 "RestedArms" "now" "LRestedArms$Board;", .fieldLink RX4 194 "RestedArms$Board" "pulls" "[I", .methodLink RX4 241 Lib.Math.min.name, .static Lib.Math.min.name, .initialized "java/lang/Math", .code Lib.Math.min.name Lib.Math.min.code 2 (some .int), .methodLink RX4 246 Lib.Math.max.name, .static Lib.Math.max.name, .code Lib.Math.max.name Lib.Math.max.code 2 (some .int), .methodLink RX4 71 yX4_at, .static yX4_at, .initialized RX4, .code yX4_at cX4_at 2 (some .int)] ++ wsX40 ++ wsX00)
def wsX4_hashOfArm_r1 : List Cond := [Cond.constantLong RX4 251 (31), Cond.methodLink RX4 286 yX4_arm, Cond.instanceMethod yX4_arm, Cond.selects RX4 yX4_arm yX4_arm, Cond.initialized RX4, Cond.code yX4_arm cX4_arm 3 (some .int), Cond.classLink RX4 52 "java/lang/IllegalArgumentException", Cond.initialized "java/lang/IllegalArgumentException", Cond.fieldLink RX4 10 "RestedArms" "now" "LRestedArms$Board;", Cond.fieldLink RX4 94 "RestedArms$Board" "places" "[I", Cond.fieldLink RX4 194 "RestedArms$Board" "pulls" "[I", Cond.fieldLink RX4 29 "RestedArms" "indices" "LRestedArms$Indices;", Cond.methodLink RX4 114 yX4_needArm, Cond.static yX4_needArm, Cond.code yX4_needArm cX4_needArm 1 none, Cond.classLink RX4 302 "java/lang/IndexOutOfBoundsException", Cond.initialized "java/lang/IndexOutOfBoundsException", Cond.methodLink RX4 48 yX4_isWithin, Cond.static yX4_isWithin, Cond.code yX4_isWithin cX4_isWithin 3 (some .boolean), Cond.methodLink RX4 71 yX4_at, Cond.static yX4_at, Cond.code yX4_at cX4_at 2 (some .int), Cond.methodLink RX4 137 yX2_refresh]
def wsX4_hashOfArm_r2 : List Cond := [Cond.instanceMethod yX2_refresh, Cond.selects RX2 yX2_refresh yX2_refresh, Cond.initialized RX2, Cond.code yX2_refresh cX2_refresh 4 none, Cond.fieldLink RX2 15 "RestedArms$Indices" "fresh" "[Z", Cond.fieldLink RX2 9 "RestedArms$Indices" "table" "[J", Cond.static yX4_slotOf, Cond.code yX4_slotOf cX4_slotOf 2 (some .int), Cond.methodLink RX2 29 yX2_find, Cond.instanceMethod yX2_find, Cond.selects RX2 yX2_find yX2_find, Cond.code yX2_find cX2_find 6 (some .long), Cond.fieldLink RX2 37 "RestedArms$Board" "settings" "[I", Cond.methodLink RX2 47 yX2_clearValues, Cond.instanceMethod yX2_clearValues, Cond.selects RX2 yX2_clearValues yX2_clearValues, Cond.code yX2_clearValues cX2_clearValues 2 none, Cond.fieldLink RX2 19 "RestedArms$Indices" "values" "[J", Cond.methodLink RX2 50 yX2_turn, Cond.instanceMethod yX2_turn, Cond.selects RX2 yX2_turn yX2_turn, Cond.code yX2_turn cX2_turn 18 none, Cond.fieldLink RX2 58 "RestedArms$Board" "chances" "[I", Cond.fieldLink RX2 61 "RestedArms$Board" "goods" "[I"]
def wsX4_hashOfArm_r3 : List Cond := [Cond.fieldLink RX2 67 "RestedArms$Board" "bads" "[I", Cond.constantLong RX2 70 (8), Cond.constantLong RX2 78 (100), Cond.fieldLink RX2 22 "RestedArms$Indices" "own" "[J", Cond.constantLong RX2 80 (1000), Cond.fieldLink RX2 82 "RestedArms$Board" "gifts" "[I", Cond.methodLink RX2 85 Lib.MathLoose.max_long.x, Cond.static Lib.MathLoose.max_long.x, Cond.initialized "java/lang/Math", Cond.code Lib.MathLoose.max_long.x Lib.MathLoose.max_long.code 4 (some .long), Cond.static yX4_at_, Cond.code yX4_at_ cX4_at_ 2 (some .long), Cond.methodLink RX2 72 yJ9_floorDiv_f86c9, Cond.static yJ9_floorDiv_f86c9, Cond.initialized RJ9, Cond.code yJ9_floorDiv_f86c9 cJ9_floorDiv_f86c9 6 (some .long), Cond.static yX4_store_, Cond.code yX4_store_ cX4_store_ 4 none, Cond.methodLink RX2 54 yX2_indexNow, Cond.instanceMethod yX2_indexNow, Cond.selects RX2 yX2_indexNow yX2_indexNow, Cond.code yX2_indexNow cX2_indexNow 3 (some .long), Cond.methodLink RX4 197 yX4_bestState, Cond.instanceMethod yX4_bestState]
def wsX4_hashOfArm_r4 : List Cond := [Cond.selects RX4 yX4_bestState yX4_bestState, Cond.code yX4_bestState cX4_bestState 4 (some .int), Cond.fieldLink RX4 188 "RestedArms$Indices" "table" "[J", Cond.methodLink RX4 63 yX4_slotOf, Cond.methodLink RX4 191 yX4_at_, Cond.methodLink RX4 201 yX4_roundsNeeded, Cond.instanceMethod yX4_roundsNeeded, Cond.selects RX4 yX4_roundsNeeded yX4_roundsNeeded, Cond.code yX4_roundsNeeded cX4_roundsNeeded 3 (some .int), Cond.methodLink RX4 318 yX2_leastRounds, Cond.instanceMethod yX2_leastRounds, Cond.selects RX2 yX2_leastRounds yX2_leastRounds, Cond.code yX2_leastRounds cX2_leastRounds 8 (some .int), Cond.methodLink RX4 289 yX4_stateOf, Cond.instanceMethod yX4_stateOf, Cond.selects RX4 yX4_stateOf yX4_stateOf, Cond.code yX4_stateOf cX4_stateOf 5 (some .int), Cond.fieldLink RX4 67 "RestedArms$Board" "gifts" "[I", Cond.fieldLink RX4 85 "RestedArms$Board" "goods" "[I", Cond.fieldLink RX4 88 "RestedArms$Board" "bads" "[I", Cond.fieldLink RX4 91 "RestedArms$Board" "chances" "[I", Cond.methodLink RX4 44 yX4_needState, Cond.static yX4_needState, Cond.code yX4_needState cX4_needState 2 none]
def wsX4_hashOfArm_r5 : List Cond := [Cond.methodLink RX4 183 yX4_reachedFrom, Cond.instanceMethod yX4_reachedFrom, Cond.selects RX4 yX4_reachedFrom yX4_reachedFrom, Cond.code yX4_reachedFrom cX4_reachedFrom 6 (some .int), Cond.methodLink RX4 315 yX4_nextOf, Cond.instanceMethod yX4_nextOf, Cond.selects RX4 yX4_nextOf yX4_nextOf, Cond.code yX4_nextOf cX4_nextOf 5 (some .int), Cond.methodLink RX4 293 yX4_index, Cond.instanceMethod yX4_index, Cond.selects RX4 yX4_index yX4_index, Cond.code yX4_index cX4_index 3 (some .long)]
def wsX4_hashOfArm : List Cond := .code yX4_hashOfArm cX4_hashOfArm 8 (some .long) :: ((wsX4_hashOfArm_r1 ++ (wsX4_hashOfArm_r2 ++ (wsX4_hashOfArm_r3 ++ (wsX4_hashOfArm_r4 ++ wsX4_hashOfArm_r5)))) ++ wsX40 ++ wsX00 ++ wsX20 ++ (vx_atS RX4 56 "java/lang/IllegalArgumentException" ["java/lang/RuntimeException", "java/lang/Exception"]).filter goodWord ++ (vx_atS RX4 306 "java/lang/IndexOutOfBoundsException" ["java/lang/RuntimeException", "java/lang/Exception"]).filter goodWord)
def wsX4_bitsOf : List Cond := .code yX4_bitsOf cX4_bitsOf 7 (some .long) :: ([.constantLong RX4 296 (1023), .constantDouble RX4 298 (4611686018427387904), .constantDouble RX4 300 (4841369599423283200)])
def wsX4_digest_r1 : List Cond := [Cond.constantLong RX4 249 (2843), Cond.constantLong RX4 251 (31), Cond.fieldLink RX4 36 "RestedArms" "text" "LRestedArms$Text;", Cond.fieldLink RX4 154 "RestedArms$Text" "length" "I", Cond.fieldLink RX4 159 "RestedArms$Text" "codes" "[I", Cond.methodLink RX4 253 yX4_count, Cond.instanceMethod yX4_count, Cond.selects RX4 yX4_count yX4_count, Cond.initialized RX4, Cond.code yX4_count cX4_count 2 (some .int), Cond.classLink RX4 52 "java/lang/IllegalArgumentException", Cond.initialized "java/lang/IllegalArgumentException", Cond.fieldLink RX4 10 "RestedArms" "now" "LRestedArms$Board;", Cond.fieldLink RX4 140 "RestedArms$Board" "changes" "I", Cond.fieldLink RX4 206 "RestedArms$Board" "last" "I", Cond.fieldLink RX4 22 "RestedArms" "history" "LRestedArms$History;", Cond.fieldLink RX4 175 "RestedArms$History" "count" "I", Cond.methodLink RX4 117 yX0_allPulls, Cond.instanceMethod yX0_allPulls, Cond.selects RX0 yX0_allPulls yX0_allPulls, Cond.initialized RX0, Cond.code yX0_allPulls cX0_allPulls 3 (some .int), Cond.fieldLink RX0 27 "RestedArms$Board" "pulls" "[I", Cond.static yX4_at]
def wsX4_digest_r2 : List Cond := [Cond.code yX4_at cX4_at 2 (some .int), Cond.methodLink RX4 255 yX4_sum, Cond.instanceMethod yX4_sum, Cond.selects RX4 yX4_sum yX4_sum, Cond.code yX4_sum cX4_sum 2 (some .long), Cond.fieldLink RX4 211 "RestedArms$Board" "brought" "J", Cond.fieldLink RX4 215 "RestedArms$Board" "weight" "J", Cond.fieldLink RX4 218 "RestedArms$Board" "row" "J", Cond.methodLink RX4 259 yX4_setting, Cond.instanceMethod yX4_setting, Cond.selects RX4 yX4_setting yX4_setting, Cond.code yX4_setting cX4_setting 2 (some .int), Cond.fieldLink RX4 108 "RestedArms$Board" "settings" "[I", Cond.methodLink RX4 97 yX4_needSetting, Cond.static yX4_needSetting, Cond.code yX4_needSetting cX4_needSetting 1 none, Cond.classLink RX4 302 "java/lang/IndexOutOfBoundsException", Cond.initialized "java/lang/IndexOutOfBoundsException", Cond.methodLink RX4 48 yX4_isWithin, Cond.static yX4_isWithin, Cond.code yX4_isWithin cX4_isWithin 3 (some .boolean), Cond.methodLink RX4 71 yX4_at, Cond.methodLink RX4 262 yX4_hashOfArm, Cond.instanceMethod yX4_hashOfArm]
def wsX4_digest_r3 : List Cond := [Cond.selects RX4 yX4_hashOfArm yX4_hashOfArm, Cond.code yX4_hashOfArm cX4_hashOfArm 8 (some .long), Cond.methodLink RX4 286 yX4_arm, Cond.instanceMethod yX4_arm, Cond.selects RX4 yX4_arm yX4_arm, Cond.code yX4_arm cX4_arm 3 (some .int), Cond.fieldLink RX4 94 "RestedArms$Board" "places" "[I", Cond.fieldLink RX4 194 "RestedArms$Board" "pulls" "[I", Cond.fieldLink RX4 29 "RestedArms" "indices" "LRestedArms$Indices;", Cond.methodLink RX4 114 yX4_needArm, Cond.static yX4_needArm, Cond.code yX4_needArm cX4_needArm 1 none, Cond.methodLink RX4 137 yX2_refresh, Cond.instanceMethod yX2_refresh, Cond.selects RX2 yX2_refresh yX2_refresh, Cond.initialized RX2, Cond.code yX2_refresh cX2_refresh 4 none, Cond.fieldLink RX2 15 "RestedArms$Indices" "fresh" "[Z", Cond.fieldLink RX2 9 "RestedArms$Indices" "table" "[J", Cond.static yX4_slotOf, Cond.code yX4_slotOf cX4_slotOf 2 (some .int), Cond.methodLink RX2 29 yX2_find, Cond.instanceMethod yX2_find, Cond.selects RX2 yX2_find yX2_find]
def wsX4_digest_r4 : List Cond := [Cond.code yX2_find cX2_find 6 (some .long), Cond.fieldLink RX2 37 "RestedArms$Board" "settings" "[I", Cond.methodLink RX2 47 yX2_clearValues, Cond.instanceMethod yX2_clearValues, Cond.selects RX2 yX2_clearValues yX2_clearValues, Cond.code yX2_clearValues cX2_clearValues 2 none, Cond.fieldLink RX2 19 "RestedArms$Indices" "values" "[J", Cond.methodLink RX2 50 yX2_turn, Cond.instanceMethod yX2_turn, Cond.selects RX2 yX2_turn yX2_turn, Cond.code yX2_turn cX2_turn 18 none, Cond.fieldLink RX2 58 "RestedArms$Board" "chances" "[I", Cond.fieldLink RX2 61 "RestedArms$Board" "goods" "[I", Cond.fieldLink RX2 67 "RestedArms$Board" "bads" "[I", Cond.constantLong RX2 70 (8), Cond.constantLong RX2 78 (100), Cond.fieldLink RX2 22 "RestedArms$Indices" "own" "[J", Cond.constantLong RX2 80 (1000), Cond.fieldLink RX2 82 "RestedArms$Board" "gifts" "[I", Cond.methodLink RX2 85 Lib.MathLoose.max_long.x, Cond.static Lib.MathLoose.max_long.x, Cond.initialized "java/lang/Math", Cond.code Lib.MathLoose.max_long.x Lib.MathLoose.max_long.code 4 (some .long), Cond.static yX4_at_]
def wsX4_digest_r5 : List Cond := [Cond.code yX4_at_ cX4_at_ 2 (some .long), Cond.methodLink RX2 72 yJ9_floorDiv_f86c9, Cond.static yJ9_floorDiv_f86c9, Cond.initialized RJ9, Cond.code yJ9_floorDiv_f86c9 cJ9_floorDiv_f86c9 6 (some .long), Cond.static yX4_store_, Cond.code yX4_store_ cX4_store_ 4 none, Cond.methodLink RX2 54 yX2_indexNow, Cond.instanceMethod yX2_indexNow, Cond.selects RX2 yX2_indexNow yX2_indexNow, Cond.code yX2_indexNow cX2_indexNow 3 (some .long), Cond.methodLink RX4 197 yX4_bestState, Cond.instanceMethod yX4_bestState, Cond.selects RX4 yX4_bestState yX4_bestState, Cond.code yX4_bestState cX4_bestState 4 (some .int), Cond.fieldLink RX4 188 "RestedArms$Indices" "table" "[J", Cond.methodLink RX4 63 yX4_slotOf, Cond.methodLink RX4 191 yX4_at_, Cond.methodLink RX4 201 yX4_roundsNeeded, Cond.instanceMethod yX4_roundsNeeded, Cond.selects RX4 yX4_roundsNeeded yX4_roundsNeeded, Cond.code yX4_roundsNeeded cX4_roundsNeeded 3 (some .int), Cond.methodLink RX4 318 yX2_leastRounds, Cond.instanceMethod yX2_leastRounds]
def wsX4_digest_r6 : List Cond := [Cond.selects RX2 yX2_leastRounds yX2_leastRounds, Cond.code yX2_leastRounds cX2_leastRounds 8 (some .int), Cond.methodLink RX4 289 yX4_stateOf, Cond.instanceMethod yX4_stateOf, Cond.selects RX4 yX4_stateOf yX4_stateOf, Cond.code yX4_stateOf cX4_stateOf 5 (some .int), Cond.fieldLink RX4 67 "RestedArms$Board" "gifts" "[I", Cond.fieldLink RX4 85 "RestedArms$Board" "goods" "[I", Cond.fieldLink RX4 88 "RestedArms$Board" "bads" "[I", Cond.fieldLink RX4 91 "RestedArms$Board" "chances" "[I", Cond.methodLink RX4 44 yX4_needState, Cond.static yX4_needState, Cond.code yX4_needState cX4_needState 2 none, Cond.methodLink RX4 183 yX4_reachedFrom, Cond.instanceMethod yX4_reachedFrom, Cond.selects RX4 yX4_reachedFrom yX4_reachedFrom, Cond.code yX4_reachedFrom cX4_reachedFrom 6 (some .int), Cond.methodLink RX4 315 yX4_nextOf, Cond.instanceMethod yX4_nextOf, Cond.selects RX4 yX4_nextOf yX4_nextOf, Cond.code yX4_nextOf cX4_nextOf 5 (some .int), Cond.methodLink RX4 293 yX4_index, Cond.instanceMethod yX4_index, Cond.selects RX4 yX4_index yX4_index]
def wsX4_digest_r7 : List Cond := [Cond.code yX4_index cX4_index 3 (some .long), Cond.methodLink RX4 266 yX4_choice, Cond.instanceMethod yX4_choice, Cond.selects RX4 yX4_choice yX4_choice, Cond.code yX4_choice cX4_choice 2 (some .int), Cond.methodLink RX4 129 yX4_needRule, Cond.static yX4_needRule, Cond.code yX4_needRule cX4_needRule 1 none, Cond.methodLink RX4 223 yX4_chosenBy, Cond.instanceMethod yX4_chosenBy, Cond.selects RX4 yX4_chosenBy yX4_chosenBy, Cond.code yX4_chosenBy cX4_chosenBy 3 (some .int), Cond.methodLink RX4 234 yX4_scoreAll, Cond.instanceMethod yX4_scoreAll, Cond.selects RX4 yX4_scoreAll yX4_scoreAll, Cond.code yX4_scoreAll cX4_scoreAll 7 none, Cond.fieldLink RX4 40 "RestedArms" "scores" "[J", Cond.methodLink RX4 325 yX0_costOf, Cond.instanceMethod yX0_costOf, Cond.selects RX0 yX0_costOf yX0_costOf, Cond.code yX0_costOf cX0_costOf 5 (some .long), Cond.fieldLink RX0 30 "RestedArms$Board" "settings" "[I", Cond.constantLong RX0 70 (10), Cond.methodLink RX0 66 yX0_wouldChange]
def wsX4_digest_r8 : List Cond := [Cond.instanceMethod yX0_wouldChange, Cond.selects RX0 yX0_wouldChange yX0_wouldChange, Cond.code yX0_wouldChange cX0_wouldChange 2 (some .boolean), Cond.fieldLink RX0 33 "RestedArms$Board" "last" "I", Cond.methodLink RX4 328 yX4_store_, Cond.methodLink RX4 322 yX4_greatestScore, Cond.instanceMethod yX4_greatestScore, Cond.selects RX4 yX4_greatestScore yX4_greatestScore, Cond.code yX4_greatestScore cX4_greatestScore 4 (some .int), Cond.methodLink RX4 269 yX4_ifPlayed, Cond.instanceMethod yX4_ifPlayed, Cond.selects RX4 yX4_ifPlayed yX4_ifPlayed, Cond.code yX4_ifPlayed cX4_ifPlayed 3 (some .long), Cond.methodLink RX4 132 yX4_needPulls, Cond.static yX4_needPulls, Cond.code yX4_needPulls cX4_needPulls 1 none, Cond.methodLink RX4 227 yX4_gain, Cond.instanceMethod yX4_gain, Cond.selects RX4 yX4_gain yX4_gain, Cond.code yX4_gain cX4_gain 3 (some .long), Cond.fieldLink RX4 16 "RestedArms" "trial" "LRestedArms$Board;", Cond.methodLink RX4 231 yX0_copy, Cond.instanceMethod yX0_copy, Cond.selects RX0 yX0_copy yX0_copy]
def wsX4_digest_r9 : List Cond := [Cond.code yX0_copy cX0_copy 2 none, Cond.fieldLink RX0 9 "RestedArms$Board" "gifts" "[I", Cond.methodLink RX0 46 arraycopyName, Cond.native arraycopyName, Cond.static arraycopyName, Cond.initialized "java/lang/System", Cond.fieldLink RX0 15 "RestedArms$Board" "goods" "[I", Cond.fieldLink RX0 18 "RestedArms$Board" "bads" "[I", Cond.fieldLink RX0 21 "RestedArms$Board" "chances" "[I", Cond.fieldLink RX0 24 "RestedArms$Board" "places" "[I", Cond.fieldLink RX0 52 "RestedArms$Board" "changes" "I", Cond.fieldLink RX0 55 "RestedArms$Board" "brought" "J", Cond.fieldLink RX0 39 "RestedArms$Board" "weight" "J", Cond.fieldLink RX0 43 "RestedArms$Board" "row" "J", Cond.methodLink RX4 144 yX4_playOn, Cond.instanceMethod yX4_playOn, Cond.selects RX4 yX4_playOn yX4_playOn, Cond.code yX4_playOn cX4_playOn 5 none, Cond.methodLink RX4 126 yX0_pullOnce, Cond.instanceMethod yX0_pullOnce, Cond.selects RX0 yX0_pullOnce yX0_pullOnce, Cond.code yX0_pullOnce cX0_pullOnce 5 none, Cond.constantLong RX0 72 (1000), Cond.constantLong RX0 37 (1000000)]
def wsX4_digest_r10 : List Cond := [Cond.constantLong RX0 84 (100), Cond.methodLink RX0 78 yJ9_floorDiv_f86c9, Cond.static yX4_store, Cond.code yX4_store cX4_store 3 none, Cond.methodLink RX0 86 yX0_goOn, Cond.instanceMethod yX0_goOn, Cond.selects RX0 yX0_goOn yX0_goOn, Cond.code yX0_goOn cX0_goOn 4 none, Cond.constantLong RX0 90 (6364136223846793005), Cond.constantLong RX0 92 (1442695040888963407), Cond.methodLink RX4 272 yX4_bestRule, Cond.instanceMethod yX4_bestRule, Cond.selects RX4 yX4_bestRule yX4_bestRule, Cond.code yX4_bestRule cX4_bestRule 8 (some .int), Cond.methodLink RX4 275 yX4_giftFor, Cond.instanceMethod yX4_giftFor, Cond.selects RX4 yX4_giftFor yX4_giftFor, Cond.code yX4_giftFor cX4_giftFor 7 (some .int), Cond.methodLink RX4 238 yX4_wouldChoose, Cond.instanceMethod yX4_wouldChoose, Cond.selects RX4 yX4_wouldChoose yX4_wouldChoose, Cond.code yX4_wouldChoose cX4_wouldChoose 6 (some .boolean), Cond.methodLink RX4 75 yX4_store, Cond.methodLink RX4 331 yX2_find]
def wsX4_digest_r11 : List Cond := [Cond.methodLink RX4 278 yX4_evenness, Cond.instanceMethod yX4_evenness, Cond.selects RX4 yX4_evenness yX4_evenness, Cond.code yX4_evenness cX4_evenness 4 (some .double), Cond.methodLink RX4 241 Lib.Math.min.name, Cond.static Lib.Math.min.name, Cond.code Lib.Math.min.name Lib.Math.min.code 2 (some .int), Cond.methodLink RX4 246 Lib.Math.max.name, Cond.static Lib.Math.max.name, Cond.code Lib.Math.max.name Lib.Math.max.code 2 (some .int), Cond.methodLink RX4 282 yX4_bitsOf, Cond.static yX4_bitsOf, Cond.code yX4_bitsOf cX4_bitsOf 7 (some .long), Cond.constantLong RX4 296 (1023), Cond.constantDouble RX4 298 (4611686018427387904), Cond.constantDouble RX4 300 (4841369599423283200)]
def wsX4_digest : List Cond := .code yX4_digest cX4_digest 4 (some .long) :: ((wsX4_digest_r1 ++ (wsX4_digest_r2 ++ (wsX4_digest_r3 ++ (wsX4_digest_r4 ++ (wsX4_digest_r5 ++ (wsX4_digest_r6 ++ (wsX4_digest_r7 ++ (wsX4_digest_r8 ++ (wsX4_digest_r9 ++ (wsX4_digest_r10 ++ wsX4_digest_r11)))))))))) ++ wsX40 ++ wsX30 ++ wsX00 ++ wsX10 ++ wsX20 ++ (vx_atS RX4 56 "java/lang/IllegalArgumentException" ["java/lang/RuntimeException", "java/lang/Exception"]).filter goodWord ++ (vx_atS RX4 306 "java/lang/IndexOutOfBoundsException" ["java/lang/RuntimeException", "java/lang/Exception"]).filter goodWord)
def wsX5_init : List Cond := .code yX5_init cX5_init 2 none :: ([.methodLink RX5 1 objectInit, .instanceMethod objectInit, .code objectInit ⟨#[0xb1]⟩ 1 none, .arrayClass .long, .fieldLink RX5 7 "RestedArmsModel" "now" "[J", .fieldLink RX5 13 "RestedArmsModel" "then" "[J", .fieldLink RX5 16 "RestedArmsModel" "past" "[J", .arrayClass .int, .fieldLink RX5 19 "RestedArmsModel" "text" "[I", .fieldLink RX5 23 "RestedArmsModel" "told" "[I", .fieldLink RX5 26 "RestedArmsModel" "values" "[J", .fieldLink RX5 29 "RestedArmsModel" "owns" "[J", .constantLong RX5 32 (90), .constantLong RX5 34 (20), .constantLong RX5 36 (-1), .constantLong RX5 38 (1000000), .constantLong RX5 40 (4)] ++ wsX50)
def wsX5_thrown : List Cond := .code yX5_thrown cX5_thrown 1 (some .int) :: ([.fieldLink RX5 42 "RestedArmsModel" "thrown" "I"] ++ wsX50)
def wsX5_fails : List Cond := .code yX5_fails cX5_fails 2 (some .int) :: ([.fieldLink RX5 42 "RestedArmsModel" "thrown" "I"] ++ wsX50)
def wsX5_in : List Cond := .code yX5_in cX5_in 4 (some .boolean) :: ([])
def wsX5_isArm : List Cond := .code yX5_isArm cX5_isArm 1 (some .boolean) :: ([.methodLink RX5 46 yX5_in, .static yX5_in, .initialized RX5, .code yX5_in cX5_in 4 (some .boolean)])
def wsX5_isState : List Cond := .code yX5_isState cX5_isState 1 (some .boolean) :: ([.methodLink RX5 46 yX5_in, .static yX5_in, .initialized RX5, .code yX5_in cX5_in 4 (some .boolean)])
def wsX5_of : List Cond := .code yX5_of cX5_of 4 (some .int) :: ([])
def wsX5_stands : List Cond := .code yX5_stands cX5_stands 2 (some .int) :: ([])
def wsX5_saves : List Cond := .code yX5_saves cX5_saves 2 none :: ([.fieldLink RX5 50 "RestedArmsModel" "kept" "I", .fieldLink RX5 16 "RestedArmsModel" "past" "[J", .fieldLink RX5 7 "RestedArmsModel" "now" "[J"] ++ wsX50)
def wsX5_undo : List Cond := .code yX5_undo cX5_undo 2 (some .int) :: ([.fieldLink RX5 42 "RestedArmsModel" "thrown" "I", .fieldLink RX5 50 "RestedArmsModel" "kept" "I", .fieldLink RX5 7 "RestedArmsModel" "now" "[J", .fieldLink RX5 16 "RestedArmsModel" "past" "[J", .methodLink RX5 53 yX5_fails, .instanceMethod yX5_fails, .selects RX5 yX5_fails yX5_fails, .initialized RX5, .code yX5_fails cX5_fails 2 (some .int)] ++ wsX50)
def wsX5_tries : List Cond := .code yX5_tries cX5_tries 2 none :: ([.fieldLink RX5 13 "RestedArmsModel" "then" "[J", .fieldLink RX5 7 "RestedArmsModel" "now" "[J"] ++ wsX50)
def wsX5_expected : List Cond := .code yX5_expected cX5_expected 5 (some .long) :: ([.fieldLink RX5 26 "RestedArmsModel" "values" "[J", .constantLong RX5 61 (8), .methodLink RX5 57 yX5_of, .static yX5_of, .initialized RX5, .code yX5_of cX5_of 4 (some .int)] ++ wsX50)
def wsX5_round : List Cond := .code yX5_round cX5_round 5 none :: ([.fieldLink RX5 29 "RestedArmsModel" "owns" "[J", .constantLong RX5 63 (1000), .constantLong RX5 69 (100), .fieldLink RX5 26 "RestedArmsModel" "values" "[J", .methodLink RX5 57 yX5_of, .static yX5_of, .initialized RX5, .code yX5_of cX5_of 4 (some .int), .methodLink RX5 65 yX5_expected, .instanceMethod yX5_expected, .selects RX5 yX5_expected yX5_expected, .code yX5_expected cX5_expected 5 (some .long), .constantLong RX5 61 (8)] ++ wsX50)
def wsX5_begins : List Cond := .code yX5_begins cX5_begins 2 none :: ([.fieldLink RX5 26 "RestedArmsModel" "values" "[J"] ++ wsX50)
def wsX5_indexBy : List Cond := .code yX5_indexBy cX5_indexBy 3 (some .long) :: ([.constantLong RX5 69 (100), .fieldLink RX5 26 "RestedArmsModel" "values" "[J"] ++ wsX50)
def wsX5_indexOf_r1 : List Cond := [Cond.methodLink RX5 71 yX5_begins, Cond.instanceMethod yX5_begins, Cond.selects RX5 yX5_begins yX5_begins, Cond.initialized RX5, Cond.code yX5_begins cX5_begins 2 none, Cond.fieldLink RX5 26 "RestedArmsModel" "values" "[J", Cond.methodLink RX5 74 yX5_round, Cond.instanceMethod yX5_round, Cond.selects RX5 yX5_round yX5_round, Cond.code yX5_round cX5_round 5 none, Cond.fieldLink RX5 29 "RestedArmsModel" "owns" "[J", Cond.constantLong RX5 63 (1000), Cond.constantLong RX5 69 (100), Cond.methodLink RX5 57 yX5_of, Cond.static yX5_of, Cond.code yX5_of cX5_of 4 (some .int), Cond.methodLink RX5 65 yX5_expected, Cond.instanceMethod yX5_expected, Cond.selects RX5 yX5_expected yX5_expected, Cond.code yX5_expected cX5_expected 5 (some .long), Cond.constantLong RX5 61 (8), Cond.methodLink RX5 78 yX5_indexBy, Cond.instanceMethod yX5_indexBy, Cond.selects RX5 yX5_indexBy yX5_indexBy]
def wsX5_indexOf_r2 : List Cond := [Cond.code yX5_indexBy cX5_indexBy 3 (some .long)]
def wsX5_indexOf : List Cond := .code yX5_indexOf cX5_indexOf 5 (some .long) :: ((wsX5_indexOf_r1 ++ wsX5_indexOf_r2) ++ wsX50)
def wsX5_rounds_r1 : List Cond := [Cond.fieldLink RX5 7 "RestedArmsModel" "now" "[J", Cond.methodLink RX5 82 yX5_stands, Cond.static yX5_stands, Cond.initialized RX5, Cond.code yX5_stands cX5_stands 2 (some .int), Cond.methodLink RX5 86 yX5_indexOf, Cond.instanceMethod yX5_indexOf, Cond.selects RX5 yX5_indexOf yX5_indexOf, Cond.code yX5_indexOf cX5_indexOf 5 (some .long), Cond.methodLink RX5 71 yX5_begins, Cond.instanceMethod yX5_begins, Cond.selects RX5 yX5_begins yX5_begins, Cond.code yX5_begins cX5_begins 2 none, Cond.fieldLink RX5 26 "RestedArmsModel" "values" "[J", Cond.methodLink RX5 74 yX5_round, Cond.instanceMethod yX5_round, Cond.selects RX5 yX5_round yX5_round, Cond.code yX5_round cX5_round 5 none, Cond.fieldLink RX5 29 "RestedArmsModel" "owns" "[J", Cond.constantLong RX5 63 (1000), Cond.constantLong RX5 69 (100), Cond.methodLink RX5 57 yX5_of, Cond.static yX5_of, Cond.code yX5_of cX5_of 4 (some .int)]
def wsX5_rounds_r2 : List Cond := [Cond.methodLink RX5 65 yX5_expected, Cond.instanceMethod yX5_expected, Cond.selects RX5 yX5_expected yX5_expected, Cond.code yX5_expected cX5_expected 5 (some .long), Cond.constantLong RX5 61 (8), Cond.methodLink RX5 78 yX5_indexBy, Cond.instanceMethod yX5_indexBy, Cond.selects RX5 yX5_indexBy yX5_indexBy, Cond.code yX5_indexBy cX5_indexBy 3 (some .long)]
def wsX5_rounds : List Cond := .code yX5_rounds cX5_rounds 7 (some .int) :: ((wsX5_rounds_r1 ++ wsX5_rounds_r2) ++ wsX50)
def wsX5_greatest_r1 : List Cond := [Cond.fieldLink RX5 7 "RestedArmsModel" "now" "[J", Cond.methodLink RX5 86 yX5_indexOf, Cond.instanceMethod yX5_indexOf, Cond.selects RX5 yX5_indexOf yX5_indexOf, Cond.initialized RX5, Cond.code yX5_indexOf cX5_indexOf 5 (some .long), Cond.methodLink RX5 71 yX5_begins, Cond.instanceMethod yX5_begins, Cond.selects RX5 yX5_begins yX5_begins, Cond.code yX5_begins cX5_begins 2 none, Cond.fieldLink RX5 26 "RestedArmsModel" "values" "[J", Cond.methodLink RX5 74 yX5_round, Cond.instanceMethod yX5_round, Cond.selects RX5 yX5_round yX5_round, Cond.code yX5_round cX5_round 5 none, Cond.fieldLink RX5 29 "RestedArmsModel" "owns" "[J", Cond.constantLong RX5 63 (1000), Cond.constantLong RX5 69 (100), Cond.methodLink RX5 57 yX5_of, Cond.static yX5_of, Cond.code yX5_of cX5_of 4 (some .int), Cond.methodLink RX5 65 yX5_expected, Cond.instanceMethod yX5_expected, Cond.selects RX5 yX5_expected yX5_expected]
def wsX5_greatest_r2 : List Cond := [Cond.code yX5_expected cX5_expected 5 (some .long), Cond.constantLong RX5 61 (8), Cond.methodLink RX5 78 yX5_indexBy, Cond.instanceMethod yX5_indexBy, Cond.selects RX5 yX5_indexBy yX5_indexBy, Cond.code yX5_indexBy cX5_indexBy 3 (some .long)]
def wsX5_greatest : List Cond := .code yX5_greatest cX5_greatest 4 (some .int) :: ((wsX5_greatest_r1 ++ wsX5_greatest_r2) ++ wsX50)
def wsX5_draws : List Cond := .code yX5_draws cX5_draws 1 (some .int) :: ([.constantLong RX5 89 (6364136223846793005), .constantLong RX5 91 (1442695040888963407)])
def wsX5_goesOn : List Cond := .code yX5_goesOn cX5_goesOn 4 none :: ([.methodLink RX5 82 yX5_stands, .static yX5_stands, .initialized RX5, .code yX5_stands cX5_stands 2 (some .int), .methodLink RX5 93 yX5_draws, .static yX5_draws, .code yX5_draws cX5_draws 1 (some .int), .constantLong RX5 89 (6364136223846793005), .constantLong RX5 91 (1442695040888963407), .methodLink RX5 57 yX5_of, .static yX5_of, .code yX5_of cX5_of 4 (some .int)])
def wsX5_isOther : List Cond := .code yX5_isOther cX5_isOther 2 (some .boolean) :: ([.constantLong RX5 36 (-1)])
def wsX5_down : List Cond := .code yX5_down cX5_down 6 (some .long) :: ([])
def wsX5_pulls_r1 : List Cond := [Cond.constantLong RX5 63 (1000), Cond.constantLong RX5 38 (1000000), Cond.constantLong RX5 69 (100), Cond.methodLink RX5 97 yX5_isOther, Cond.static yX5_isOther, Cond.initialized RX5, Cond.code yX5_isOther cX5_isOther 2 (some .boolean), Cond.constantLong RX5 36 (-1), Cond.methodLink RX5 82 yX5_stands, Cond.static yX5_stands, Cond.code yX5_stands cX5_stands 2 (some .int), Cond.methodLink RX5 57 yX5_of, Cond.static yX5_of, Cond.code yX5_of cX5_of 4 (some .int), Cond.methodLink RX5 101 yX5_down, Cond.static yX5_down, Cond.code yX5_down cX5_down 6 (some .long), Cond.methodLink RX5 105 yX5_goesOn, Cond.static yX5_goesOn, Cond.code yX5_goesOn cX5_goesOn 4 none, Cond.methodLink RX5 93 yX5_draws, Cond.static yX5_draws, Cond.code yX5_draws cX5_draws 1 (some .int), Cond.constantLong RX5 89 (6364136223846793005)]
def wsX5_pulls_r2 : List Cond := [Cond.constantLong RX5 91 (1442695040888963407)]
def wsX5_pulls : List Cond := .code yX5_pulls cX5_pulls 6 none :: ((wsX5_pulls_r1 ++ wsX5_pulls_r2))
def wsX5_worth_r1 : List Cond := [Cond.constantLong RX5 109 (10), Cond.constantLong RX5 69 (100), Cond.methodLink RX5 97 yX5_isOther, Cond.static yX5_isOther, Cond.initialized RX5, Cond.code yX5_isOther cX5_isOther 2 (some .boolean), Cond.constantLong RX5 36 (-1), Cond.methodLink RX5 82 yX5_stands, Cond.static yX5_stands, Cond.code yX5_stands cX5_stands 2 (some .int), Cond.methodLink RX5 86 yX5_indexOf, Cond.instanceMethod yX5_indexOf, Cond.selects RX5 yX5_indexOf yX5_indexOf, Cond.code yX5_indexOf cX5_indexOf 5 (some .long), Cond.methodLink RX5 71 yX5_begins, Cond.instanceMethod yX5_begins, Cond.selects RX5 yX5_begins yX5_begins, Cond.code yX5_begins cX5_begins 2 none, Cond.fieldLink RX5 26 "RestedArmsModel" "values" "[J", Cond.methodLink RX5 74 yX5_round, Cond.instanceMethod yX5_round, Cond.selects RX5 yX5_round yX5_round, Cond.code yX5_round cX5_round 5 none, Cond.fieldLink RX5 29 "RestedArmsModel" "owns" "[J"]
def wsX5_worth_r2 : List Cond := [Cond.constantLong RX5 63 (1000), Cond.methodLink RX5 57 yX5_of, Cond.static yX5_of, Cond.code yX5_of cX5_of 4 (some .int), Cond.methodLink RX5 65 yX5_expected, Cond.instanceMethod yX5_expected, Cond.selects RX5 yX5_expected yX5_expected, Cond.code yX5_expected cX5_expected 5 (some .long), Cond.constantLong RX5 61 (8), Cond.methodLink RX5 78 yX5_indexBy, Cond.instanceMethod yX5_indexBy, Cond.selects RX5 yX5_indexBy yX5_indexBy, Cond.code yX5_indexBy cX5_indexBy 3 (some .long)]
def wsX5_worth : List Cond := .code yX5_worth cX5_worth 6 (some .long) :: ((wsX5_worth_r1 ++ wsX5_worth_r2) ++ wsX50)
def wsX5_chosen_r1 : List Cond := [Cond.constantLong RX5 36 (-1), Cond.methodLink RX5 111 yX5_worth, Cond.instanceMethod yX5_worth, Cond.selects RX5 yX5_worth yX5_worth, Cond.initialized RX5, Cond.code yX5_worth cX5_worth 6 (some .long), Cond.constantLong RX5 109 (10), Cond.constantLong RX5 69 (100), Cond.methodLink RX5 97 yX5_isOther, Cond.static yX5_isOther, Cond.code yX5_isOther cX5_isOther 2 (some .boolean), Cond.methodLink RX5 82 yX5_stands, Cond.static yX5_stands, Cond.code yX5_stands cX5_stands 2 (some .int), Cond.methodLink RX5 86 yX5_indexOf, Cond.instanceMethod yX5_indexOf, Cond.selects RX5 yX5_indexOf yX5_indexOf, Cond.code yX5_indexOf cX5_indexOf 5 (some .long), Cond.methodLink RX5 71 yX5_begins, Cond.instanceMethod yX5_begins, Cond.selects RX5 yX5_begins yX5_begins, Cond.code yX5_begins cX5_begins 2 none, Cond.fieldLink RX5 26 "RestedArmsModel" "values" "[J", Cond.methodLink RX5 74 yX5_round]
def wsX5_chosen_r2 : List Cond := [Cond.instanceMethod yX5_round, Cond.selects RX5 yX5_round yX5_round, Cond.code yX5_round cX5_round 5 none, Cond.fieldLink RX5 29 "RestedArmsModel" "owns" "[J", Cond.constantLong RX5 63 (1000), Cond.methodLink RX5 57 yX5_of, Cond.static yX5_of, Cond.code yX5_of cX5_of 4 (some .int), Cond.methodLink RX5 65 yX5_expected, Cond.instanceMethod yX5_expected, Cond.selects RX5 yX5_expected yX5_expected, Cond.code yX5_expected cX5_expected 5 (some .long), Cond.constantLong RX5 61 (8), Cond.methodLink RX5 78 yX5_indexBy, Cond.instanceMethod yX5_indexBy, Cond.selects RX5 yX5_indexBy yX5_indexBy, Cond.code yX5_indexBy cX5_indexBy 3 (some .long)]
def wsX5_chosen : List Cond := .code yX5_chosen cX5_chosen 9 (some .int) :: ((wsX5_chosen_r1 ++ wsX5_chosen_r2) ++ wsX50)
def wsX5_plays_r1 : List Cond := [Cond.methodLink RX5 114 yX5_chosen, Cond.instanceMethod yX5_chosen, Cond.selects RX5 yX5_chosen yX5_chosen, Cond.initialized RX5, Cond.code yX5_chosen cX5_chosen 9 (some .int), Cond.constantLong RX5 36 (-1), Cond.methodLink RX5 111 yX5_worth, Cond.instanceMethod yX5_worth, Cond.selects RX5 yX5_worth yX5_worth, Cond.code yX5_worth cX5_worth 6 (some .long), Cond.constantLong RX5 109 (10), Cond.constantLong RX5 69 (100), Cond.methodLink RX5 97 yX5_isOther, Cond.static yX5_isOther, Cond.code yX5_isOther cX5_isOther 2 (some .boolean), Cond.methodLink RX5 82 yX5_stands, Cond.static yX5_stands, Cond.code yX5_stands cX5_stands 2 (some .int), Cond.methodLink RX5 86 yX5_indexOf, Cond.instanceMethod yX5_indexOf, Cond.selects RX5 yX5_indexOf yX5_indexOf, Cond.code yX5_indexOf cX5_indexOf 5 (some .long), Cond.methodLink RX5 71 yX5_begins, Cond.instanceMethod yX5_begins]
def wsX5_plays_r2 : List Cond := [Cond.selects RX5 yX5_begins yX5_begins, Cond.code yX5_begins cX5_begins 2 none, Cond.fieldLink RX5 26 "RestedArmsModel" "values" "[J", Cond.methodLink RX5 74 yX5_round, Cond.instanceMethod yX5_round, Cond.selects RX5 yX5_round yX5_round, Cond.code yX5_round cX5_round 5 none, Cond.fieldLink RX5 29 "RestedArmsModel" "owns" "[J", Cond.constantLong RX5 63 (1000), Cond.methodLink RX5 57 yX5_of, Cond.static yX5_of, Cond.code yX5_of cX5_of 4 (some .int), Cond.methodLink RX5 65 yX5_expected, Cond.instanceMethod yX5_expected, Cond.selects RX5 yX5_expected yX5_expected, Cond.code yX5_expected cX5_expected 5 (some .long), Cond.constantLong RX5 61 (8), Cond.methodLink RX5 78 yX5_indexBy, Cond.instanceMethod yX5_indexBy, Cond.selects RX5 yX5_indexBy yX5_indexBy, Cond.code yX5_indexBy cX5_indexBy 3 (some .long), Cond.methodLink RX5 117 yX5_pulls, Cond.static yX5_pulls, Cond.code yX5_pulls cX5_pulls 6 none]
def wsX5_plays_r3 : List Cond := [Cond.constantLong RX5 38 (1000000), Cond.methodLink RX5 101 yX5_down, Cond.static yX5_down, Cond.code yX5_down cX5_down 6 (some .long), Cond.methodLink RX5 105 yX5_goesOn, Cond.static yX5_goesOn, Cond.code yX5_goesOn cX5_goesOn 4 none, Cond.methodLink RX5 93 yX5_draws, Cond.static yX5_draws, Cond.code yX5_draws cX5_draws 1 (some .int), Cond.constantLong RX5 89 (6364136223846793005), Cond.constantLong RX5 91 (1442695040888963407)]
def wsX5_plays : List Cond := .code yX5_plays cX5_plays 5 none :: ((wsX5_plays_r1 ++ (wsX5_plays_r2 ++ wsX5_plays_r3)) ++ wsX50)
def wsX5_changes : List Cond := .code yX5_changes cX5_changes 4 (some .int) :: ([.fieldLink RX5 7 "RestedArmsModel" "now" "[J"] ++ wsX50)
def wsX5_gift_r1 : List Cond := [Cond.fieldLink RX5 42 "RestedArmsModel" "thrown" "I", Cond.methodLink RX5 120 yX5_isArm, Cond.static yX5_isArm, Cond.initialized RX5, Cond.code yX5_isArm cX5_isArm 1 (some .boolean), Cond.methodLink RX5 46 yX5_in, Cond.static yX5_in, Cond.code yX5_in cX5_in 4 (some .boolean), Cond.methodLink RX5 124 yX5_isState, Cond.static yX5_isState, Cond.code yX5_isState cX5_isState 1 (some .boolean), Cond.methodLink RX5 53 yX5_fails, Cond.instanceMethod yX5_fails, Cond.selects RX5 yX5_fails yX5_fails, Cond.code yX5_fails cX5_fails 2 (some .int), Cond.methodLink RX5 127 yX5_saves, Cond.instanceMethod yX5_saves, Cond.selects RX5 yX5_saves yX5_saves, Cond.code yX5_saves cX5_saves 2 none, Cond.fieldLink RX5 50 "RestedArmsModel" "kept" "I", Cond.fieldLink RX5 16 "RestedArmsModel" "past" "[J", Cond.fieldLink RX5 7 "RestedArmsModel" "now" "[J", Cond.methodLink RX5 130 yX5_changes, Cond.instanceMethod yX5_changes]
def wsX5_gift_r2 : List Cond := [Cond.selects RX5 yX5_changes yX5_changes, Cond.code yX5_changes cX5_changes 4 (some .int)]
def wsX5_gift : List Cond := .code yX5_gift cX5_gift 4 (some .int) :: ((wsX5_gift_r1 ++ wsX5_gift_r2) ++ wsX50)
def wsX5_ways : List Cond := .code yX5_ways cX5_ways 7 (some .int) :: ([.methodLink RX5 130 yX5_changes, .instanceMethod yX5_changes, .selects RX5 yX5_changes yX5_changes, .initialized RX5, .code yX5_changes cX5_changes 4 (some .int), .fieldLink RX5 7 "RestedArmsModel" "now" "[J"] ++ wsX50)
def wsX5_way_r1 : List Cond := [Cond.fieldLink RX5 42 "RestedArmsModel" "thrown" "I", Cond.methodLink RX5 120 yX5_isArm, Cond.static yX5_isArm, Cond.initialized RX5, Cond.code yX5_isArm cX5_isArm 1 (some .boolean), Cond.methodLink RX5 46 yX5_in, Cond.static yX5_in, Cond.code yX5_in cX5_in 4 (some .boolean), Cond.methodLink RX5 124 yX5_isState, Cond.static yX5_isState, Cond.code yX5_isState cX5_isState 1 (some .boolean), Cond.methodLink RX5 53 yX5_fails, Cond.instanceMethod yX5_fails, Cond.selects RX5 yX5_fails yX5_fails, Cond.code yX5_fails cX5_fails 2 (some .int), Cond.methodLink RX5 127 yX5_saves, Cond.instanceMethod yX5_saves, Cond.selects RX5 yX5_saves yX5_saves, Cond.code yX5_saves cX5_saves 2 none, Cond.fieldLink RX5 50 "RestedArmsModel" "kept" "I", Cond.fieldLink RX5 16 "RestedArmsModel" "past" "[J", Cond.fieldLink RX5 7 "RestedArmsModel" "now" "[J", Cond.methodLink RX5 134 yX5_ways, Cond.instanceMethod yX5_ways]
def wsX5_way_r2 : List Cond := [Cond.selects RX5 yX5_ways yX5_ways, Cond.code yX5_ways cX5_ways 7 (some .int), Cond.methodLink RX5 130 yX5_changes, Cond.instanceMethod yX5_changes, Cond.selects RX5 yX5_changes yX5_changes, Cond.code yX5_changes cX5_changes 4 (some .int)]
def wsX5_way : List Cond := .code yX5_way cX5_way 6 (some .int) :: ((wsX5_way_r1 ++ wsX5_way_r2) ++ wsX50)
def wsX5_put_r1 : List Cond := [Cond.fieldLink RX5 42 "RestedArmsModel" "thrown" "I", Cond.methodLink RX5 120 yX5_isArm, Cond.static yX5_isArm, Cond.initialized RX5, Cond.code yX5_isArm cX5_isArm 1 (some .boolean), Cond.methodLink RX5 46 yX5_in, Cond.static yX5_in, Cond.code yX5_in cX5_in 4 (some .boolean), Cond.methodLink RX5 124 yX5_isState, Cond.static yX5_isState, Cond.code yX5_isState cX5_isState 1 (some .boolean), Cond.methodLink RX5 53 yX5_fails, Cond.instanceMethod yX5_fails, Cond.selects RX5 yX5_fails yX5_fails, Cond.code yX5_fails cX5_fails 2 (some .int), Cond.methodLink RX5 127 yX5_saves, Cond.instanceMethod yX5_saves, Cond.selects RX5 yX5_saves yX5_saves, Cond.code yX5_saves cX5_saves 2 none, Cond.fieldLink RX5 50 "RestedArmsModel" "kept" "I", Cond.fieldLink RX5 16 "RestedArmsModel" "past" "[J", Cond.fieldLink RX5 7 "RestedArmsModel" "now" "[J", Cond.methodLink RX5 130 yX5_changes, Cond.instanceMethod yX5_changes]
def wsX5_put_r2 : List Cond := [Cond.selects RX5 yX5_changes yX5_changes, Cond.code yX5_changes cX5_changes 4 (some .int)]
def wsX5_put : List Cond := .code yX5_put cX5_put 3 (some .int) :: ((wsX5_put_r1 ++ wsX5_put_r2) ++ wsX50)
def wsX5_isFor : List Cond := .code yX5_isFor cX5_isFor 2 (some .boolean) :: ([.methodLink RX5 46 yX5_in, .static yX5_in, .initialized RX5, .code yX5_in cX5_in 4 (some .boolean)])
def wsX5_set : List Cond := .code yX5_set cX5_set 3 (some .int) :: ([.fieldLink RX5 42 "RestedArmsModel" "thrown" "I", .methodLink RX5 46 yX5_in, .static yX5_in, .initialized RX5, .code yX5_in cX5_in 4 (some .boolean), .methodLink RX5 53 yX5_fails, .instanceMethod yX5_fails, .selects RX5 yX5_fails yX5_fails, .code yX5_fails cX5_fails 2 (some .int), .methodLink RX5 138 yX5_isFor, .static yX5_isFor, .code yX5_isFor cX5_isFor 2 (some .boolean), .methodLink RX5 127 yX5_saves, .instanceMethod yX5_saves, .selects RX5 yX5_saves yX5_saves, .code yX5_saves cX5_saves 2 none, .fieldLink RX5 50 "RestedArmsModel" "kept" "I", .fieldLink RX5 16 "RestedArmsModel" "past" "[J", .fieldLink RX5 7 "RestedArmsModel" "now" "[J", .methodLink RX5 130 yX5_changes, .instanceMethod yX5_changes, .selects RX5 yX5_changes yX5_changes, .code yX5_changes cX5_changes 4 (some .int)] ++ wsX50)
def wsX5_pull_r1 : List Cond := [Cond.fieldLink RX5 42 "RestedArmsModel" "thrown" "I", Cond.fieldLink RX5 7 "RestedArmsModel" "now" "[J", Cond.constantLong RX5 142 (9999), Cond.methodLink RX5 120 yX5_isArm, Cond.static yX5_isArm, Cond.initialized RX5, Cond.code yX5_isArm cX5_isArm 1 (some .boolean), Cond.methodLink RX5 46 yX5_in, Cond.static yX5_in, Cond.code yX5_in cX5_in 4 (some .boolean), Cond.methodLink RX5 53 yX5_fails, Cond.instanceMethod yX5_fails, Cond.selects RX5 yX5_fails yX5_fails, Cond.code yX5_fails cX5_fails 2 (some .int), Cond.methodLink RX5 127 yX5_saves, Cond.instanceMethod yX5_saves, Cond.selects RX5 yX5_saves yX5_saves, Cond.code yX5_saves cX5_saves 2 none, Cond.fieldLink RX5 50 "RestedArmsModel" "kept" "I", Cond.fieldLink RX5 16 "RestedArmsModel" "past" "[J", Cond.methodLink RX5 117 yX5_pulls, Cond.static yX5_pulls, Cond.code yX5_pulls cX5_pulls 6 none, Cond.constantLong RX5 63 (1000)]
def wsX5_pull_r2 : List Cond := [Cond.constantLong RX5 38 (1000000), Cond.constantLong RX5 69 (100), Cond.methodLink RX5 97 yX5_isOther, Cond.static yX5_isOther, Cond.code yX5_isOther cX5_isOther 2 (some .boolean), Cond.constantLong RX5 36 (-1), Cond.methodLink RX5 82 yX5_stands, Cond.static yX5_stands, Cond.code yX5_stands cX5_stands 2 (some .int), Cond.methodLink RX5 57 yX5_of, Cond.static yX5_of, Cond.code yX5_of cX5_of 4 (some .int), Cond.methodLink RX5 101 yX5_down, Cond.static yX5_down, Cond.code yX5_down cX5_down 6 (some .long), Cond.methodLink RX5 105 yX5_goesOn, Cond.static yX5_goesOn, Cond.code yX5_goesOn cX5_goesOn 4 none, Cond.methodLink RX5 93 yX5_draws, Cond.static yX5_draws, Cond.code yX5_draws cX5_draws 1 (some .int), Cond.constantLong RX5 89 (6364136223846793005), Cond.constantLong RX5 91 (1442695040888963407)]
def wsX5_pull : List Cond := .code yX5_pull cX5_pull 2 (some .int) :: ((wsX5_pull_r1 ++ wsX5_pull_r2) ++ wsX50)
def wsX5_isPlay : List Cond := .code yX5_isPlay cX5_isPlay 2 (some .boolean) :: ([.methodLink RX5 46 yX5_in, .static yX5_in, .initialized RX5, .code yX5_in cX5_in 4 (some .boolean)])
def wsX5_play_r1 : List Cond := [Cond.fieldLink RX5 42 "RestedArmsModel" "thrown" "I", Cond.fieldLink RX5 7 "RestedArmsModel" "now" "[J", Cond.constantLong RX5 142 (9999), Cond.methodLink RX5 144 yX5_isPlay, Cond.static yX5_isPlay, Cond.initialized RX5, Cond.code yX5_isPlay cX5_isPlay 2 (some .boolean), Cond.methodLink RX5 46 yX5_in, Cond.static yX5_in, Cond.code yX5_in cX5_in 4 (some .boolean), Cond.methodLink RX5 53 yX5_fails, Cond.instanceMethod yX5_fails, Cond.selects RX5 yX5_fails yX5_fails, Cond.code yX5_fails cX5_fails 2 (some .int), Cond.methodLink RX5 127 yX5_saves, Cond.instanceMethod yX5_saves, Cond.selects RX5 yX5_saves yX5_saves, Cond.code yX5_saves cX5_saves 2 none, Cond.fieldLink RX5 50 "RestedArmsModel" "kept" "I", Cond.fieldLink RX5 16 "RestedArmsModel" "past" "[J", Cond.methodLink RX5 147 yX5_plays, Cond.instanceMethod yX5_plays, Cond.selects RX5 yX5_plays yX5_plays, Cond.code yX5_plays cX5_plays 5 none]
def wsX5_play_r2 : List Cond := [Cond.methodLink RX5 114 yX5_chosen, Cond.instanceMethod yX5_chosen, Cond.selects RX5 yX5_chosen yX5_chosen, Cond.code yX5_chosen cX5_chosen 9 (some .int), Cond.constantLong RX5 36 (-1), Cond.methodLink RX5 111 yX5_worth, Cond.instanceMethod yX5_worth, Cond.selects RX5 yX5_worth yX5_worth, Cond.code yX5_worth cX5_worth 6 (some .long), Cond.constantLong RX5 109 (10), Cond.constantLong RX5 69 (100), Cond.methodLink RX5 97 yX5_isOther, Cond.static yX5_isOther, Cond.code yX5_isOther cX5_isOther 2 (some .boolean), Cond.methodLink RX5 82 yX5_stands, Cond.static yX5_stands, Cond.code yX5_stands cX5_stands 2 (some .int), Cond.methodLink RX5 86 yX5_indexOf, Cond.instanceMethod yX5_indexOf, Cond.selects RX5 yX5_indexOf yX5_indexOf, Cond.code yX5_indexOf cX5_indexOf 5 (some .long), Cond.methodLink RX5 71 yX5_begins, Cond.instanceMethod yX5_begins, Cond.selects RX5 yX5_begins yX5_begins]
def wsX5_play_r3 : List Cond := [Cond.code yX5_begins cX5_begins 2 none, Cond.fieldLink RX5 26 "RestedArmsModel" "values" "[J", Cond.methodLink RX5 74 yX5_round, Cond.instanceMethod yX5_round, Cond.selects RX5 yX5_round yX5_round, Cond.code yX5_round cX5_round 5 none, Cond.fieldLink RX5 29 "RestedArmsModel" "owns" "[J", Cond.constantLong RX5 63 (1000), Cond.methodLink RX5 57 yX5_of, Cond.static yX5_of, Cond.code yX5_of cX5_of 4 (some .int), Cond.methodLink RX5 65 yX5_expected, Cond.instanceMethod yX5_expected, Cond.selects RX5 yX5_expected yX5_expected, Cond.code yX5_expected cX5_expected 5 (some .long), Cond.constantLong RX5 61 (8), Cond.methodLink RX5 78 yX5_indexBy, Cond.instanceMethod yX5_indexBy, Cond.selects RX5 yX5_indexBy yX5_indexBy, Cond.code yX5_indexBy cX5_indexBy 3 (some .long), Cond.methodLink RX5 117 yX5_pulls, Cond.static yX5_pulls, Cond.code yX5_pulls cX5_pulls 6 none, Cond.constantLong RX5 38 (1000000)]
def wsX5_play_r4 : List Cond := [Cond.methodLink RX5 101 yX5_down, Cond.static yX5_down, Cond.code yX5_down cX5_down 6 (some .long), Cond.methodLink RX5 105 yX5_goesOn, Cond.static yX5_goesOn, Cond.code yX5_goesOn cX5_goesOn 4 none, Cond.methodLink RX5 93 yX5_draws, Cond.static yX5_draws, Cond.code yX5_draws cX5_draws 1 (some .int), Cond.constantLong RX5 89 (6364136223846793005), Cond.constantLong RX5 91 (1442695040888963407)]
def wsX5_play : List Cond := .code yX5_play cX5_play 5 (some .int) :: ((wsX5_play_r1 ++ (wsX5_play_r2 ++ (wsX5_play_r3 ++ wsX5_play_r4))) ++ wsX50)
def wsX5_begin : List Cond := .code yX5_begin cX5_begin 5 (some .int) :: ([.fieldLink RX5 42 "RestedArmsModel" "thrown" "I", .fieldLink RX5 7 "RestedArmsModel" "now" "[J", .constantLong RX5 36 (-1), .constantLong RX5 38 (1000000), .methodLink RX5 127 yX5_saves, .instanceMethod yX5_saves, .selects RX5 yX5_saves yX5_saves, .initialized RX5, .code yX5_saves cX5_saves 2 none, .fieldLink RX5 50 "RestedArmsModel" "kept" "I", .fieldLink RX5 16 "RestedArmsModel" "past" "[J"] ++ wsX50)
def wsX5_append : List Cond := .code yX5_append cX5_append 2 (some .int) :: ([.fieldLink RX5 42 "RestedArmsModel" "thrown" "I", .fieldLink RX5 150 "RestedArmsModel" "typed" "I", .fieldLink RX5 19 "RestedArmsModel" "text" "[I", .methodLink RX5 46 yX5_in, .static yX5_in, .initialized RX5, .code yX5_in cX5_in 4 (some .boolean), .methodLink RX5 53 yX5_fails, .instanceMethod yX5_fails, .selects RX5 yX5_fails yX5_fails, .code yX5_fails cX5_fails 2 (some .int)] ++ wsX50)
def wsX5_clearBuffer : List Cond := .code yX5_clearBuffer cX5_clearBuffer 2 (some .int) :: ([.fieldLink RX5 42 "RestedArmsModel" "thrown" "I", .fieldLink RX5 150 "RestedArmsModel" "typed" "I"] ++ wsX50)
def wsX5_isAt : List Cond := .code yX5_isAt cX5_isAt 3 (some .boolean) :: ([.fieldLink RX5 153 "RestedArmsModel" "at" "I", .fieldLink RX5 150 "RestedArmsModel" "typed" "I", .fieldLink RX5 19 "RestedArmsModel" "text" "[I", .methodLink RX5 46 yX5_in, .static yX5_in, .initialized RX5, .code yX5_in cX5_in 4 (some .boolean)] ++ wsX50)
def wsX5_stops : List Cond := .code yX5_stops cX5_stops 1 (some .boolean) :: ([.fieldLink RX5 153 "RestedArmsModel" "at" "I", .fieldLink RX5 150 "RestedArmsModel" "typed" "I", .fieldLink RX5 156 "RestedArmsModel" "isFault" "Z"] ++ wsX50)
def wsX5_isSign : List Cond := .code yX5_isSign cX5_isSign 4 (some .boolean) :: ([.fieldLink RX5 23 "RestedArmsModel" "told" "[I", .fieldLink RX5 167 "RestedArmsModel" "tolds" "I", .fieldLink RX5 19 "RestedArmsModel" "text" "[I", .fieldLink RX5 153 "RestedArmsModel" "at" "I", .methodLink RX5 160 yX5_isAt, .instanceMethod yX5_isAt, .selects RX5 yX5_isAt yX5_isAt, .initialized RX5, .code yX5_isAt cX5_isAt 3 (some .boolean), .fieldLink RX5 150 "RestedArmsModel" "typed" "I", .methodLink RX5 46 yX5_in, .static yX5_in, .code yX5_in cX5_in 4 (some .boolean), .methodLink RX5 163 yX5_stops, .instanceMethod yX5_stops, .selects RX5 yX5_stops yX5_stops, .code yX5_stops cX5_stops 1 (some .boolean), .fieldLink RX5 156 "RestedArmsModel" "isFault" "Z"] ++ wsX50)
def wsX5_isGift : List Cond := .code yX5_isGift cX5_isGift 2 (some .boolean) :: ([.fieldLink RX5 23 "RestedArmsModel" "told" "[I", .fieldLink RX5 167 "RestedArmsModel" "tolds" "I", .fieldLink RX5 19 "RestedArmsModel" "text" "[I", .fieldLink RX5 153 "RestedArmsModel" "at" "I", .methodLink RX5 170 yX5_isSign, .instanceMethod yX5_isSign, .selects RX5 yX5_isSign yX5_isSign, .initialized RX5, .code yX5_isSign cX5_isSign 4 (some .boolean), .methodLink RX5 160 yX5_isAt, .instanceMethod yX5_isAt, .selects RX5 yX5_isAt yX5_isAt, .code yX5_isAt cX5_isAt 3 (some .boolean), .fieldLink RX5 150 "RestedArmsModel" "typed" "I", .methodLink RX5 46 yX5_in, .static yX5_in, .code yX5_in cX5_in 4 (some .boolean), .methodLink RX5 163 yX5_stops, .instanceMethod yX5_stops, .selects RX5 yX5_stops yX5_stops, .code yX5_stops cX5_stops 1 (some .boolean), .fieldLink RX5 156 "RestedArmsModel" "isFault" "Z"] ++ wsX50)
def wsX5_isPart_r1 : List Cond := [Cond.fieldLink RX5 23 "RestedArmsModel" "told" "[I", Cond.fieldLink RX5 167 "RestedArmsModel" "tolds" "I", Cond.fieldLink RX5 153 "RestedArmsModel" "at" "I", Cond.methodLink RX5 170 yX5_isSign, Cond.instanceMethod yX5_isSign, Cond.selects RX5 yX5_isSign yX5_isSign, Cond.initialized RX5, Cond.code yX5_isSign cX5_isSign 4 (some .boolean), Cond.fieldLink RX5 19 "RestedArmsModel" "text" "[I", Cond.methodLink RX5 160 yX5_isAt, Cond.instanceMethod yX5_isAt, Cond.selects RX5 yX5_isAt yX5_isAt, Cond.code yX5_isAt cX5_isAt 3 (some .boolean), Cond.fieldLink RX5 150 "RestedArmsModel" "typed" "I", Cond.methodLink RX5 46 yX5_in, Cond.static yX5_in, Cond.code yX5_in cX5_in 4 (some .boolean), Cond.methodLink RX5 163 yX5_stops, Cond.instanceMethod yX5_stops, Cond.selects RX5 yX5_stops yX5_stops, Cond.code yX5_stops cX5_stops 1 (some .boolean), Cond.fieldLink RX5 156 "RestedArmsModel" "isFault" "Z", Cond.methodLink RX5 174 yX5_isGift, Cond.instanceMethod yX5_isGift]
def wsX5_isPart_r2 : List Cond := [Cond.selects RX5 yX5_isGift yX5_isGift, Cond.code yX5_isGift cX5_isGift 2 (some .boolean)]
def wsX5_isPart : List Cond := .code yX5_isPart cX5_isPart 1 (some .boolean) :: ((wsX5_isPart_r1 ++ wsX5_isPart_r2) ++ wsX50)
def wsX5_isText_r1 : List Cond := [Cond.fieldLink RX5 153 "RestedArmsModel" "at" "I", Cond.fieldLink RX5 167 "RestedArmsModel" "tolds" "I", Cond.fieldLink RX5 156 "RestedArmsModel" "isFault" "Z", Cond.fieldLink RX5 150 "RestedArmsModel" "typed" "I", Cond.methodLink RX5 177 yX5_isPart, Cond.instanceMethod yX5_isPart, Cond.selects RX5 yX5_isPart yX5_isPart, Cond.initialized RX5, Cond.code yX5_isPart cX5_isPart 1 (some .boolean), Cond.fieldLink RX5 23 "RestedArmsModel" "told" "[I", Cond.methodLink RX5 170 yX5_isSign, Cond.instanceMethod yX5_isSign, Cond.selects RX5 yX5_isSign yX5_isSign, Cond.code yX5_isSign cX5_isSign 4 (some .boolean), Cond.fieldLink RX5 19 "RestedArmsModel" "text" "[I", Cond.methodLink RX5 160 yX5_isAt, Cond.instanceMethod yX5_isAt, Cond.selects RX5 yX5_isAt yX5_isAt, Cond.code yX5_isAt cX5_isAt 3 (some .boolean), Cond.methodLink RX5 46 yX5_in, Cond.static yX5_in, Cond.code yX5_in cX5_in 4 (some .boolean), Cond.methodLink RX5 163 yX5_stops, Cond.instanceMethod yX5_stops]
def wsX5_isText_r2 : List Cond := [Cond.selects RX5 yX5_stops yX5_stops, Cond.code yX5_stops cX5_stops 1 (some .boolean), Cond.methodLink RX5 174 yX5_isGift, Cond.instanceMethod yX5_isGift, Cond.selects RX5 yX5_isGift yX5_isGift, Cond.code yX5_isGift cX5_isGift 2 (some .boolean)]
def wsX5_isText : List Cond := .code yX5_isText cX5_isText 2 (some .boolean) :: ((wsX5_isText_r1 ++ wsX5_isText_r2) ++ wsX50)
def wsX5_firstError_r1 : List Cond := [Cond.fieldLink RX5 42 "RestedArmsModel" "thrown" "I", Cond.fieldLink RX5 156 "RestedArmsModel" "isFault" "Z", Cond.fieldLink RX5 153 "RestedArmsModel" "at" "I", Cond.fieldLink RX5 150 "RestedArmsModel" "typed" "I", Cond.methodLink RX5 180 yX5_isText, Cond.instanceMethod yX5_isText, Cond.selects RX5 yX5_isText yX5_isText, Cond.initialized RX5, Cond.code yX5_isText cX5_isText 2 (some .boolean), Cond.fieldLink RX5 167 "RestedArmsModel" "tolds" "I", Cond.methodLink RX5 177 yX5_isPart, Cond.instanceMethod yX5_isPart, Cond.selects RX5 yX5_isPart yX5_isPart, Cond.code yX5_isPart cX5_isPart 1 (some .boolean), Cond.fieldLink RX5 23 "RestedArmsModel" "told" "[I", Cond.methodLink RX5 170 yX5_isSign, Cond.instanceMethod yX5_isSign, Cond.selects RX5 yX5_isSign yX5_isSign, Cond.code yX5_isSign cX5_isSign 4 (some .boolean), Cond.fieldLink RX5 19 "RestedArmsModel" "text" "[I", Cond.methodLink RX5 160 yX5_isAt, Cond.instanceMethod yX5_isAt, Cond.selects RX5 yX5_isAt yX5_isAt, Cond.code yX5_isAt cX5_isAt 3 (some .boolean)]
def wsX5_firstError_r2 : List Cond := [Cond.methodLink RX5 46 yX5_in, Cond.static yX5_in, Cond.code yX5_in cX5_in 4 (some .boolean), Cond.methodLink RX5 163 yX5_stops, Cond.instanceMethod yX5_stops, Cond.selects RX5 yX5_stops yX5_stops, Cond.code yX5_stops cX5_stops 1 (some .boolean), Cond.methodLink RX5 174 yX5_isGift, Cond.instanceMethod yX5_isGift, Cond.selects RX5 yX5_isGift yX5_isGift, Cond.code yX5_isGift cX5_isGift 2 (some .boolean)]
def wsX5_firstError : List Cond := .code yX5_firstError cX5_firstError 2 (some .int) :: ((wsX5_firstError_r1 ++ wsX5_firstError_r2) ++ wsX50)
def wsX5_read_r1 : List Cond := [Cond.fieldLink RX5 42 "RestedArmsModel" "thrown" "I", Cond.fieldLink RX5 150 "RestedArmsModel" "typed" "I", Cond.fieldLink RX5 167 "RestedArmsModel" "tolds" "I", Cond.fieldLink RX5 23 "RestedArmsModel" "told" "[I", Cond.methodLink RX5 180 yX5_isText, Cond.instanceMethod yX5_isText, Cond.selects RX5 yX5_isText yX5_isText, Cond.initialized RX5, Cond.code yX5_isText cX5_isText 2 (some .boolean), Cond.fieldLink RX5 153 "RestedArmsModel" "at" "I", Cond.fieldLink RX5 156 "RestedArmsModel" "isFault" "Z", Cond.methodLink RX5 177 yX5_isPart, Cond.instanceMethod yX5_isPart, Cond.selects RX5 yX5_isPart yX5_isPart, Cond.code yX5_isPart cX5_isPart 1 (some .boolean), Cond.methodLink RX5 170 yX5_isSign, Cond.instanceMethod yX5_isSign, Cond.selects RX5 yX5_isSign yX5_isSign, Cond.code yX5_isSign cX5_isSign 4 (some .boolean), Cond.fieldLink RX5 19 "RestedArmsModel" "text" "[I", Cond.methodLink RX5 160 yX5_isAt, Cond.instanceMethod yX5_isAt, Cond.selects RX5 yX5_isAt yX5_isAt, Cond.code yX5_isAt cX5_isAt 3 (some .boolean)]
def wsX5_read_r2 : List Cond := [Cond.methodLink RX5 46 yX5_in, Cond.static yX5_in, Cond.code yX5_in cX5_in 4 (some .boolean), Cond.methodLink RX5 163 yX5_stops, Cond.instanceMethod yX5_stops, Cond.selects RX5 yX5_stops yX5_stops, Cond.code yX5_stops cX5_stops 1 (some .boolean), Cond.methodLink RX5 174 yX5_isGift, Cond.instanceMethod yX5_isGift, Cond.selects RX5 yX5_isGift yX5_isGift, Cond.code yX5_isGift cX5_isGift 2 (some .boolean), Cond.methodLink RX5 53 yX5_fails, Cond.instanceMethod yX5_fails, Cond.selects RX5 yX5_fails yX5_fails, Cond.code yX5_fails cX5_fails 2 (some .int), Cond.methodLink RX5 127 yX5_saves, Cond.instanceMethod yX5_saves, Cond.selects RX5 yX5_saves yX5_saves, Cond.code yX5_saves cX5_saves 2 none, Cond.fieldLink RX5 50 "RestedArmsModel" "kept" "I", Cond.fieldLink RX5 16 "RestedArmsModel" "past" "[J", Cond.fieldLink RX5 7 "RestedArmsModel" "now" "[J", Cond.methodLink RX5 130 yX5_changes, Cond.instanceMethod yX5_changes]
def wsX5_read_r3 : List Cond := [Cond.selects RX5 yX5_changes yX5_changes, Cond.code yX5_changes cX5_changes 4 (some .int), Cond.methodLink RX5 134 yX5_ways, Cond.instanceMethod yX5_ways, Cond.selects RX5 yX5_ways yX5_ways, Cond.code yX5_ways cX5_ways 7 (some .int)]
def wsX5_read : List Cond := .code yX5_read cX5_read 4 (some .int) :: ((wsX5_read_r1 ++ (wsX5_read_r2 ++ wsX5_read_r3)) ++ wsX50)
def wsX5_reached : List Cond := .code yX5_reached cX5_reached 6 (some .int) :: ([.fieldLink RX5 7 "RestedArmsModel" "now" "[J", .methodLink RX5 57 yX5_of, .static yX5_of, .initialized RX5, .code yX5_of cX5_of 4 (some .int)] ++ wsX50)
def wsX5_ofState : List Cond := .code yX5_ofState cX5_ofState 4 (some .int) :: ([.fieldLink RX5 7 "RestedArmsModel" "now" "[J", .methodLink RX5 57 yX5_of, .static yX5_of, .initialized RX5, .code yX5_of cX5_of 4 (some .int), .methodLink RX5 183 yX5_reached, .instanceMethod yX5_reached, .selects RX5 yX5_reached yX5_reached, .code yX5_reached cX5_reached 6 (some .int)] ++ wsX50)
def wsX5_stateOf_r1 : List Cond := [Cond.fieldLink RX5 42 "RestedArmsModel" "thrown" "I", Cond.methodLink RX5 120 yX5_isArm, Cond.static yX5_isArm, Cond.initialized RX5, Cond.code yX5_isArm cX5_isArm 1 (some .boolean), Cond.methodLink RX5 46 yX5_in, Cond.static yX5_in, Cond.code yX5_in cX5_in 4 (some .boolean), Cond.methodLink RX5 124 yX5_isState, Cond.static yX5_isState, Cond.code yX5_isState cX5_isState 1 (some .boolean), Cond.methodLink RX5 53 yX5_fails, Cond.instanceMethod yX5_fails, Cond.selects RX5 yX5_fails yX5_fails, Cond.code yX5_fails cX5_fails 2 (some .int), Cond.methodLink RX5 186 yX5_ofState, Cond.instanceMethod yX5_ofState, Cond.selects RX5 yX5_ofState yX5_ofState, Cond.code yX5_ofState cX5_ofState 4 (some .int), Cond.fieldLink RX5 7 "RestedArmsModel" "now" "[J", Cond.methodLink RX5 57 yX5_of, Cond.static yX5_of, Cond.code yX5_of cX5_of 4 (some .int), Cond.methodLink RX5 183 yX5_reached]
def wsX5_stateOf_r2 : List Cond := [Cond.instanceMethod yX5_reached, Cond.selects RX5 yX5_reached yX5_reached, Cond.code yX5_reached cX5_reached 6 (some .int)]
def wsX5_stateOf : List Cond := .code yX5_stateOf cX5_stateOf 4 (some .int) :: ((wsX5_stateOf_r1 ++ wsX5_stateOf_r2) ++ wsX50)
def wsX5_index_r1 : List Cond := [Cond.fieldLink RX5 42 "RestedArmsModel" "thrown" "I", Cond.fieldLink RX5 7 "RestedArmsModel" "now" "[J", Cond.methodLink RX5 120 yX5_isArm, Cond.static yX5_isArm, Cond.initialized RX5, Cond.code yX5_isArm cX5_isArm 1 (some .boolean), Cond.methodLink RX5 46 yX5_in, Cond.static yX5_in, Cond.code yX5_in cX5_in 4 (some .boolean), Cond.methodLink RX5 124 yX5_isState, Cond.static yX5_isState, Cond.code yX5_isState cX5_isState 1 (some .boolean), Cond.methodLink RX5 86 yX5_indexOf, Cond.instanceMethod yX5_indexOf, Cond.selects RX5 yX5_indexOf yX5_indexOf, Cond.code yX5_indexOf cX5_indexOf 5 (some .long), Cond.methodLink RX5 71 yX5_begins, Cond.instanceMethod yX5_begins, Cond.selects RX5 yX5_begins yX5_begins, Cond.code yX5_begins cX5_begins 2 none, Cond.fieldLink RX5 26 "RestedArmsModel" "values" "[J", Cond.methodLink RX5 74 yX5_round, Cond.instanceMethod yX5_round, Cond.selects RX5 yX5_round yX5_round]
def wsX5_index_r2 : List Cond := [Cond.code yX5_round cX5_round 5 none, Cond.fieldLink RX5 29 "RestedArmsModel" "owns" "[J", Cond.constantLong RX5 63 (1000), Cond.constantLong RX5 69 (100), Cond.methodLink RX5 57 yX5_of, Cond.static yX5_of, Cond.code yX5_of cX5_of 4 (some .int), Cond.methodLink RX5 65 yX5_expected, Cond.instanceMethod yX5_expected, Cond.selects RX5 yX5_expected yX5_expected, Cond.code yX5_expected cX5_expected 5 (some .long), Cond.constantLong RX5 61 (8), Cond.methodLink RX5 78 yX5_indexBy, Cond.instanceMethod yX5_indexBy, Cond.selects RX5 yX5_indexBy yX5_indexBy, Cond.code yX5_indexBy cX5_indexBy 3 (some .long), Cond.methodLink RX5 53 yX5_fails, Cond.instanceMethod yX5_fails, Cond.selects RX5 yX5_fails yX5_fails, Cond.code yX5_fails cX5_fails 2 (some .int)]
def wsX5_index : List Cond := .code yX5_index cX5_index 3 (some .long) :: ((wsX5_index_r1 ++ wsX5_index_r2) ++ wsX50)
def wsX5_ofArm_r1 : List Cond := [Cond.fieldLink RX5 7 "RestedArmsModel" "now" "[J", Cond.methodLink RX5 190 yX5_greatest, Cond.instanceMethod yX5_greatest, Cond.selects RX5 yX5_greatest yX5_greatest, Cond.initialized RX5, Cond.code yX5_greatest cX5_greatest 4 (some .int), Cond.methodLink RX5 86 yX5_indexOf, Cond.instanceMethod yX5_indexOf, Cond.selects RX5 yX5_indexOf yX5_indexOf, Cond.code yX5_indexOf cX5_indexOf 5 (some .long), Cond.methodLink RX5 71 yX5_begins, Cond.instanceMethod yX5_begins, Cond.selects RX5 yX5_begins yX5_begins, Cond.code yX5_begins cX5_begins 2 none, Cond.fieldLink RX5 26 "RestedArmsModel" "values" "[J", Cond.methodLink RX5 74 yX5_round, Cond.instanceMethod yX5_round, Cond.selects RX5 yX5_round yX5_round, Cond.code yX5_round cX5_round 5 none, Cond.fieldLink RX5 29 "RestedArmsModel" "owns" "[J", Cond.constantLong RX5 63 (1000), Cond.constantLong RX5 69 (100), Cond.methodLink RX5 57 yX5_of, Cond.static yX5_of]
def wsX5_ofArm_r2 : List Cond := [Cond.code yX5_of cX5_of 4 (some .int), Cond.methodLink RX5 65 yX5_expected, Cond.instanceMethod yX5_expected, Cond.selects RX5 yX5_expected yX5_expected, Cond.code yX5_expected cX5_expected 5 (some .long), Cond.constantLong RX5 61 (8), Cond.methodLink RX5 78 yX5_indexBy, Cond.instanceMethod yX5_indexBy, Cond.selects RX5 yX5_indexBy yX5_indexBy, Cond.code yX5_indexBy cX5_indexBy 3 (some .long), Cond.methodLink RX5 193 yX5_rounds, Cond.instanceMethod yX5_rounds, Cond.selects RX5 yX5_rounds yX5_rounds, Cond.code yX5_rounds cX5_rounds 7 (some .int), Cond.methodLink RX5 82 yX5_stands, Cond.static yX5_stands, Cond.code yX5_stands cX5_stands 2 (some .int)]
def wsX5_ofArm : List Cond := .code yX5_ofArm cX5_ofArm 3 (some .int) :: ((wsX5_ofArm_r1 ++ wsX5_ofArm_r2) ++ wsX50)
def wsX5_arm_r1 : List Cond := [Cond.fieldLink RX5 42 "RestedArmsModel" "thrown" "I", Cond.methodLink RX5 120 yX5_isArm, Cond.static yX5_isArm, Cond.initialized RX5, Cond.code yX5_isArm cX5_isArm 1 (some .boolean), Cond.methodLink RX5 46 yX5_in, Cond.static yX5_in, Cond.code yX5_in cX5_in 4 (some .boolean), Cond.methodLink RX5 53 yX5_fails, Cond.instanceMethod yX5_fails, Cond.selects RX5 yX5_fails yX5_fails, Cond.code yX5_fails cX5_fails 2 (some .int), Cond.methodLink RX5 196 yX5_ofArm, Cond.instanceMethod yX5_ofArm, Cond.selects RX5 yX5_ofArm yX5_ofArm, Cond.code yX5_ofArm cX5_ofArm 3 (some .int), Cond.fieldLink RX5 7 "RestedArmsModel" "now" "[J", Cond.methodLink RX5 190 yX5_greatest, Cond.instanceMethod yX5_greatest, Cond.selects RX5 yX5_greatest yX5_greatest, Cond.code yX5_greatest cX5_greatest 4 (some .int), Cond.methodLink RX5 86 yX5_indexOf, Cond.instanceMethod yX5_indexOf, Cond.selects RX5 yX5_indexOf yX5_indexOf]
def wsX5_arm_r2 : List Cond := [Cond.code yX5_indexOf cX5_indexOf 5 (some .long), Cond.methodLink RX5 71 yX5_begins, Cond.instanceMethod yX5_begins, Cond.selects RX5 yX5_begins yX5_begins, Cond.code yX5_begins cX5_begins 2 none, Cond.fieldLink RX5 26 "RestedArmsModel" "values" "[J", Cond.methodLink RX5 74 yX5_round, Cond.instanceMethod yX5_round, Cond.selects RX5 yX5_round yX5_round, Cond.code yX5_round cX5_round 5 none, Cond.fieldLink RX5 29 "RestedArmsModel" "owns" "[J", Cond.constantLong RX5 63 (1000), Cond.constantLong RX5 69 (100), Cond.methodLink RX5 57 yX5_of, Cond.static yX5_of, Cond.code yX5_of cX5_of 4 (some .int), Cond.methodLink RX5 65 yX5_expected, Cond.instanceMethod yX5_expected, Cond.selects RX5 yX5_expected yX5_expected, Cond.code yX5_expected cX5_expected 5 (some .long), Cond.constantLong RX5 61 (8), Cond.methodLink RX5 78 yX5_indexBy, Cond.instanceMethod yX5_indexBy, Cond.selects RX5 yX5_indexBy yX5_indexBy]
def wsX5_arm_r3 : List Cond := [Cond.code yX5_indexBy cX5_indexBy 3 (some .long), Cond.methodLink RX5 193 yX5_rounds, Cond.instanceMethod yX5_rounds, Cond.selects RX5 yX5_rounds yX5_rounds, Cond.code yX5_rounds cX5_rounds 7 (some .int), Cond.methodLink RX5 82 yX5_stands, Cond.static yX5_stands, Cond.code yX5_stands cX5_stands 2 (some .int)]
def wsX5_arm : List Cond := .code yX5_arm cX5_arm 3 (some .int) :: ((wsX5_arm_r1 ++ (wsX5_arm_r2 ++ wsX5_arm_r3)) ++ wsX50)
def wsX5_counted : List Cond := .code yX5_counted cX5_counted 2 (some .int) :: ([.fieldLink RX5 7 "RestedArmsModel" "now" "[J", .fieldLink RX5 50 "RestedArmsModel" "kept" "I"] ++ wsX50)
def wsX5_count : List Cond := .code yX5_count cX5_count 2 (some .int) :: ([.fieldLink RX5 42 "RestedArmsModel" "thrown" "I", .methodLink RX5 46 yX5_in, .static yX5_in, .initialized RX5, .code yX5_in cX5_in 4 (some .boolean), .methodLink RX5 199 yX5_counted, .instanceMethod yX5_counted, .selects RX5 yX5_counted yX5_counted, .code yX5_counted cX5_counted 2 (some .int), .fieldLink RX5 7 "RestedArmsModel" "now" "[J", .fieldLink RX5 50 "RestedArmsModel" "kept" "I", .methodLink RX5 53 yX5_fails, .instanceMethod yX5_fails, .selects RX5 yX5_fails yX5_fails, .code yX5_fails cX5_fails 2 (some .int)] ++ wsX50)
def wsX5_sum : List Cond := .code yX5_sum cX5_sum 2 (some .long) :: ([.fieldLink RX5 42 "RestedArmsModel" "thrown" "I", .fieldLink RX5 7 "RestedArmsModel" "now" "[J", .methodLink RX5 46 yX5_in, .static yX5_in, .initialized RX5, .code yX5_in cX5_in 4 (some .boolean), .methodLink RX5 53 yX5_fails, .instanceMethod yX5_fails, .selects RX5 yX5_fails yX5_fails, .code yX5_fails cX5_fails 2 (some .int)] ++ wsX50)
def wsX5_setting : List Cond := .code yX5_setting cX5_setting 2 (some .int) :: ([.fieldLink RX5 42 "RestedArmsModel" "thrown" "I", .fieldLink RX5 7 "RestedArmsModel" "now" "[J", .methodLink RX5 46 yX5_in, .static yX5_in, .initialized RX5, .code yX5_in cX5_in 4 (some .boolean), .methodLink RX5 53 yX5_fails, .instanceMethod yX5_fails, .selects RX5 yX5_fails yX5_fails, .code yX5_fails cX5_fails 2 (some .int)] ++ wsX50)
def wsX5_choice_r1 : List Cond := [Cond.fieldLink RX5 42 "RestedArmsModel" "thrown" "I", Cond.fieldLink RX5 7 "RestedArmsModel" "now" "[J", Cond.methodLink RX5 46 yX5_in, Cond.static yX5_in, Cond.initialized RX5, Cond.code yX5_in cX5_in 4 (some .boolean), Cond.methodLink RX5 114 yX5_chosen, Cond.instanceMethod yX5_chosen, Cond.selects RX5 yX5_chosen yX5_chosen, Cond.code yX5_chosen cX5_chosen 9 (some .int), Cond.constantLong RX5 36 (-1), Cond.methodLink RX5 111 yX5_worth, Cond.instanceMethod yX5_worth, Cond.selects RX5 yX5_worth yX5_worth, Cond.code yX5_worth cX5_worth 6 (some .long), Cond.constantLong RX5 109 (10), Cond.constantLong RX5 69 (100), Cond.methodLink RX5 97 yX5_isOther, Cond.static yX5_isOther, Cond.code yX5_isOther cX5_isOther 2 (some .boolean), Cond.methodLink RX5 82 yX5_stands, Cond.static yX5_stands, Cond.code yX5_stands cX5_stands 2 (some .int), Cond.methodLink RX5 86 yX5_indexOf]
def wsX5_choice_r2 : List Cond := [Cond.instanceMethod yX5_indexOf, Cond.selects RX5 yX5_indexOf yX5_indexOf, Cond.code yX5_indexOf cX5_indexOf 5 (some .long), Cond.methodLink RX5 71 yX5_begins, Cond.instanceMethod yX5_begins, Cond.selects RX5 yX5_begins yX5_begins, Cond.code yX5_begins cX5_begins 2 none, Cond.fieldLink RX5 26 "RestedArmsModel" "values" "[J", Cond.methodLink RX5 74 yX5_round, Cond.instanceMethod yX5_round, Cond.selects RX5 yX5_round yX5_round, Cond.code yX5_round cX5_round 5 none, Cond.fieldLink RX5 29 "RestedArmsModel" "owns" "[J", Cond.constantLong RX5 63 (1000), Cond.methodLink RX5 57 yX5_of, Cond.static yX5_of, Cond.code yX5_of cX5_of 4 (some .int), Cond.methodLink RX5 65 yX5_expected, Cond.instanceMethod yX5_expected, Cond.selects RX5 yX5_expected yX5_expected, Cond.code yX5_expected cX5_expected 5 (some .long), Cond.constantLong RX5 61 (8), Cond.methodLink RX5 78 yX5_indexBy, Cond.instanceMethod yX5_indexBy]
def wsX5_choice_r3 : List Cond := [Cond.selects RX5 yX5_indexBy yX5_indexBy, Cond.code yX5_indexBy cX5_indexBy 3 (some .long), Cond.methodLink RX5 53 yX5_fails, Cond.instanceMethod yX5_fails, Cond.selects RX5 yX5_fails yX5_fails, Cond.code yX5_fails cX5_fails 2 (some .int)]
def wsX5_choice : List Cond := .code yX5_choice cX5_choice 2 (some .int) :: ((wsX5_choice_r1 ++ (wsX5_choice_r2 ++ wsX5_choice_r3)) ++ wsX50)
def wsX5_byPlay_r1 : List Cond := [Cond.fieldLink RX5 13 "RestedArmsModel" "then" "[J", Cond.fieldLink RX5 7 "RestedArmsModel" "now" "[J", Cond.methodLink RX5 202 yX5_tries, Cond.instanceMethod yX5_tries, Cond.selects RX5 yX5_tries yX5_tries, Cond.initialized RX5, Cond.code yX5_tries cX5_tries 2 none, Cond.methodLink RX5 147 yX5_plays, Cond.instanceMethod yX5_plays, Cond.selects RX5 yX5_plays yX5_plays, Cond.code yX5_plays cX5_plays 5 none, Cond.methodLink RX5 114 yX5_chosen, Cond.instanceMethod yX5_chosen, Cond.selects RX5 yX5_chosen yX5_chosen, Cond.code yX5_chosen cX5_chosen 9 (some .int), Cond.constantLong RX5 36 (-1), Cond.methodLink RX5 111 yX5_worth, Cond.instanceMethod yX5_worth, Cond.selects RX5 yX5_worth yX5_worth, Cond.code yX5_worth cX5_worth 6 (some .long), Cond.constantLong RX5 109 (10), Cond.constantLong RX5 69 (100), Cond.methodLink RX5 97 yX5_isOther, Cond.static yX5_isOther]
def wsX5_byPlay_r2 : List Cond := [Cond.code yX5_isOther cX5_isOther 2 (some .boolean), Cond.methodLink RX5 82 yX5_stands, Cond.static yX5_stands, Cond.code yX5_stands cX5_stands 2 (some .int), Cond.methodLink RX5 86 yX5_indexOf, Cond.instanceMethod yX5_indexOf, Cond.selects RX5 yX5_indexOf yX5_indexOf, Cond.code yX5_indexOf cX5_indexOf 5 (some .long), Cond.methodLink RX5 71 yX5_begins, Cond.instanceMethod yX5_begins, Cond.selects RX5 yX5_begins yX5_begins, Cond.code yX5_begins cX5_begins 2 none, Cond.fieldLink RX5 26 "RestedArmsModel" "values" "[J", Cond.methodLink RX5 74 yX5_round, Cond.instanceMethod yX5_round, Cond.selects RX5 yX5_round yX5_round, Cond.code yX5_round cX5_round 5 none, Cond.fieldLink RX5 29 "RestedArmsModel" "owns" "[J", Cond.constantLong RX5 63 (1000), Cond.methodLink RX5 57 yX5_of, Cond.static yX5_of, Cond.code yX5_of cX5_of 4 (some .int), Cond.methodLink RX5 65 yX5_expected, Cond.instanceMethod yX5_expected]
def wsX5_byPlay_r3 : List Cond := [Cond.selects RX5 yX5_expected yX5_expected, Cond.code yX5_expected cX5_expected 5 (some .long), Cond.constantLong RX5 61 (8), Cond.methodLink RX5 78 yX5_indexBy, Cond.instanceMethod yX5_indexBy, Cond.selects RX5 yX5_indexBy yX5_indexBy, Cond.code yX5_indexBy cX5_indexBy 3 (some .long), Cond.methodLink RX5 117 yX5_pulls, Cond.static yX5_pulls, Cond.code yX5_pulls cX5_pulls 6 none, Cond.constantLong RX5 38 (1000000), Cond.methodLink RX5 101 yX5_down, Cond.static yX5_down, Cond.code yX5_down cX5_down 6 (some .long), Cond.methodLink RX5 105 yX5_goesOn, Cond.static yX5_goesOn, Cond.code yX5_goesOn cX5_goesOn 4 none, Cond.methodLink RX5 93 yX5_draws, Cond.static yX5_draws, Cond.code yX5_draws cX5_draws 1 (some .int), Cond.constantLong RX5 89 (6364136223846793005), Cond.constantLong RX5 91 (1442695040888963407)]
def wsX5_byPlay : List Cond := .code yX5_byPlay cX5_byPlay 3 (some .long) :: ((wsX5_byPlay_r1 ++ (wsX5_byPlay_r2 ++ wsX5_byPlay_r3)) ++ wsX50)
def wsX5_ifPlayed_r1 : List Cond := [Cond.fieldLink RX5 42 "RestedArmsModel" "thrown" "I", Cond.methodLink RX5 144 yX5_isPlay, Cond.static yX5_isPlay, Cond.initialized RX5, Cond.code yX5_isPlay cX5_isPlay 2 (some .boolean), Cond.methodLink RX5 46 yX5_in, Cond.static yX5_in, Cond.code yX5_in cX5_in 4 (some .boolean), Cond.methodLink RX5 205 yX5_byPlay, Cond.instanceMethod yX5_byPlay, Cond.selects RX5 yX5_byPlay yX5_byPlay, Cond.code yX5_byPlay cX5_byPlay 3 (some .long), Cond.fieldLink RX5 13 "RestedArmsModel" "then" "[J", Cond.fieldLink RX5 7 "RestedArmsModel" "now" "[J", Cond.methodLink RX5 202 yX5_tries, Cond.instanceMethod yX5_tries, Cond.selects RX5 yX5_tries yX5_tries, Cond.code yX5_tries cX5_tries 2 none, Cond.methodLink RX5 147 yX5_plays, Cond.instanceMethod yX5_plays, Cond.selects RX5 yX5_plays yX5_plays, Cond.code yX5_plays cX5_plays 5 none, Cond.methodLink RX5 114 yX5_chosen, Cond.instanceMethod yX5_chosen]
def wsX5_ifPlayed_r2 : List Cond := [Cond.selects RX5 yX5_chosen yX5_chosen, Cond.code yX5_chosen cX5_chosen 9 (some .int), Cond.constantLong RX5 36 (-1), Cond.methodLink RX5 111 yX5_worth, Cond.instanceMethod yX5_worth, Cond.selects RX5 yX5_worth yX5_worth, Cond.code yX5_worth cX5_worth 6 (some .long), Cond.constantLong RX5 109 (10), Cond.constantLong RX5 69 (100), Cond.methodLink RX5 97 yX5_isOther, Cond.static yX5_isOther, Cond.code yX5_isOther cX5_isOther 2 (some .boolean), Cond.methodLink RX5 82 yX5_stands, Cond.static yX5_stands, Cond.code yX5_stands cX5_stands 2 (some .int), Cond.methodLink RX5 86 yX5_indexOf, Cond.instanceMethod yX5_indexOf, Cond.selects RX5 yX5_indexOf yX5_indexOf, Cond.code yX5_indexOf cX5_indexOf 5 (some .long), Cond.methodLink RX5 71 yX5_begins, Cond.instanceMethod yX5_begins, Cond.selects RX5 yX5_begins yX5_begins, Cond.code yX5_begins cX5_begins 2 none, Cond.fieldLink RX5 26 "RestedArmsModel" "values" "[J"]
def wsX5_ifPlayed_r3 : List Cond := [Cond.methodLink RX5 74 yX5_round, Cond.instanceMethod yX5_round, Cond.selects RX5 yX5_round yX5_round, Cond.code yX5_round cX5_round 5 none, Cond.fieldLink RX5 29 "RestedArmsModel" "owns" "[J", Cond.constantLong RX5 63 (1000), Cond.methodLink RX5 57 yX5_of, Cond.static yX5_of, Cond.code yX5_of cX5_of 4 (some .int), Cond.methodLink RX5 65 yX5_expected, Cond.instanceMethod yX5_expected, Cond.selects RX5 yX5_expected yX5_expected, Cond.code yX5_expected cX5_expected 5 (some .long), Cond.constantLong RX5 61 (8), Cond.methodLink RX5 78 yX5_indexBy, Cond.instanceMethod yX5_indexBy, Cond.selects RX5 yX5_indexBy yX5_indexBy, Cond.code yX5_indexBy cX5_indexBy 3 (some .long), Cond.methodLink RX5 117 yX5_pulls, Cond.static yX5_pulls, Cond.code yX5_pulls cX5_pulls 6 none, Cond.constantLong RX5 38 (1000000), Cond.methodLink RX5 101 yX5_down, Cond.static yX5_down]
def wsX5_ifPlayed_r4 : List Cond := [Cond.code yX5_down cX5_down 6 (some .long), Cond.methodLink RX5 105 yX5_goesOn, Cond.static yX5_goesOn, Cond.code yX5_goesOn cX5_goesOn 4 none, Cond.methodLink RX5 93 yX5_draws, Cond.static yX5_draws, Cond.code yX5_draws cX5_draws 1 (some .int), Cond.constantLong RX5 89 (6364136223846793005), Cond.constantLong RX5 91 (1442695040888963407), Cond.methodLink RX5 53 yX5_fails, Cond.instanceMethod yX5_fails, Cond.selects RX5 yX5_fails yX5_fails, Cond.code yX5_fails cX5_fails 2 (some .int)]
def wsX5_ifPlayed : List Cond := .code yX5_ifPlayed cX5_ifPlayed 3 (some .long) :: ((wsX5_ifPlayed_r1 ++ (wsX5_ifPlayed_r2 ++ (wsX5_ifPlayed_r3 ++ wsX5_ifPlayed_r4))) ++ wsX50)
def wsX5_best_r1 : List Cond := [Cond.methodLink RX5 205 yX5_byPlay, Cond.instanceMethod yX5_byPlay, Cond.selects RX5 yX5_byPlay yX5_byPlay, Cond.initialized RX5, Cond.code yX5_byPlay cX5_byPlay 3 (some .long), Cond.fieldLink RX5 13 "RestedArmsModel" "then" "[J", Cond.fieldLink RX5 7 "RestedArmsModel" "now" "[J", Cond.methodLink RX5 202 yX5_tries, Cond.instanceMethod yX5_tries, Cond.selects RX5 yX5_tries yX5_tries, Cond.code yX5_tries cX5_tries 2 none, Cond.methodLink RX5 147 yX5_plays, Cond.instanceMethod yX5_plays, Cond.selects RX5 yX5_plays yX5_plays, Cond.code yX5_plays cX5_plays 5 none, Cond.methodLink RX5 114 yX5_chosen, Cond.instanceMethod yX5_chosen, Cond.selects RX5 yX5_chosen yX5_chosen, Cond.code yX5_chosen cX5_chosen 9 (some .int), Cond.constantLong RX5 36 (-1), Cond.methodLink RX5 111 yX5_worth, Cond.instanceMethod yX5_worth, Cond.selects RX5 yX5_worth yX5_worth, Cond.code yX5_worth cX5_worth 6 (some .long)]
def wsX5_best_r2 : List Cond := [Cond.constantLong RX5 109 (10), Cond.constantLong RX5 69 (100), Cond.methodLink RX5 97 yX5_isOther, Cond.static yX5_isOther, Cond.code yX5_isOther cX5_isOther 2 (some .boolean), Cond.methodLink RX5 82 yX5_stands, Cond.static yX5_stands, Cond.code yX5_stands cX5_stands 2 (some .int), Cond.methodLink RX5 86 yX5_indexOf, Cond.instanceMethod yX5_indexOf, Cond.selects RX5 yX5_indexOf yX5_indexOf, Cond.code yX5_indexOf cX5_indexOf 5 (some .long), Cond.methodLink RX5 71 yX5_begins, Cond.instanceMethod yX5_begins, Cond.selects RX5 yX5_begins yX5_begins, Cond.code yX5_begins cX5_begins 2 none, Cond.fieldLink RX5 26 "RestedArmsModel" "values" "[J", Cond.methodLink RX5 74 yX5_round, Cond.instanceMethod yX5_round, Cond.selects RX5 yX5_round yX5_round, Cond.code yX5_round cX5_round 5 none, Cond.fieldLink RX5 29 "RestedArmsModel" "owns" "[J", Cond.constantLong RX5 63 (1000), Cond.methodLink RX5 57 yX5_of]
def wsX5_best_r3 : List Cond := [Cond.static yX5_of, Cond.code yX5_of cX5_of 4 (some .int), Cond.methodLink RX5 65 yX5_expected, Cond.instanceMethod yX5_expected, Cond.selects RX5 yX5_expected yX5_expected, Cond.code yX5_expected cX5_expected 5 (some .long), Cond.constantLong RX5 61 (8), Cond.methodLink RX5 78 yX5_indexBy, Cond.instanceMethod yX5_indexBy, Cond.selects RX5 yX5_indexBy yX5_indexBy, Cond.code yX5_indexBy cX5_indexBy 3 (some .long), Cond.methodLink RX5 117 yX5_pulls, Cond.static yX5_pulls, Cond.code yX5_pulls cX5_pulls 6 none, Cond.constantLong RX5 38 (1000000), Cond.methodLink RX5 101 yX5_down, Cond.static yX5_down, Cond.code yX5_down cX5_down 6 (some .long), Cond.methodLink RX5 105 yX5_goesOn, Cond.static yX5_goesOn, Cond.code yX5_goesOn cX5_goesOn 4 none, Cond.methodLink RX5 93 yX5_draws, Cond.static yX5_draws, Cond.code yX5_draws cX5_draws 1 (some .int)]
def wsX5_best_r4 : List Cond := [Cond.constantLong RX5 89 (6364136223846793005), Cond.constantLong RX5 91 (1442695040888963407)]
def wsX5_best : List Cond := .code yX5_best cX5_best 4 (some .int) :: ((wsX5_best_r1 ++ (wsX5_best_r2 ++ (wsX5_best_r3 ++ wsX5_best_r4))) ++ wsX50)
def wsX5_bestRule_r1 : List Cond := [Cond.fieldLink RX5 42 "RestedArmsModel" "thrown" "I", Cond.methodLink RX5 46 yX5_in, Cond.static yX5_in, Cond.initialized RX5, Cond.code yX5_in cX5_in 4 (some .boolean), Cond.methodLink RX5 209 yX5_best, Cond.instanceMethod yX5_best, Cond.selects RX5 yX5_best yX5_best, Cond.code yX5_best cX5_best 4 (some .int), Cond.methodLink RX5 205 yX5_byPlay, Cond.instanceMethod yX5_byPlay, Cond.selects RX5 yX5_byPlay yX5_byPlay, Cond.code yX5_byPlay cX5_byPlay 3 (some .long), Cond.fieldLink RX5 13 "RestedArmsModel" "then" "[J", Cond.fieldLink RX5 7 "RestedArmsModel" "now" "[J", Cond.methodLink RX5 202 yX5_tries, Cond.instanceMethod yX5_tries, Cond.selects RX5 yX5_tries yX5_tries, Cond.code yX5_tries cX5_tries 2 none, Cond.methodLink RX5 147 yX5_plays, Cond.instanceMethod yX5_plays, Cond.selects RX5 yX5_plays yX5_plays, Cond.code yX5_plays cX5_plays 5 none, Cond.methodLink RX5 114 yX5_chosen]
def wsX5_bestRule_r2 : List Cond := [Cond.instanceMethod yX5_chosen, Cond.selects RX5 yX5_chosen yX5_chosen, Cond.code yX5_chosen cX5_chosen 9 (some .int), Cond.constantLong RX5 36 (-1), Cond.methodLink RX5 111 yX5_worth, Cond.instanceMethod yX5_worth, Cond.selects RX5 yX5_worth yX5_worth, Cond.code yX5_worth cX5_worth 6 (some .long), Cond.constantLong RX5 109 (10), Cond.constantLong RX5 69 (100), Cond.methodLink RX5 97 yX5_isOther, Cond.static yX5_isOther, Cond.code yX5_isOther cX5_isOther 2 (some .boolean), Cond.methodLink RX5 82 yX5_stands, Cond.static yX5_stands, Cond.code yX5_stands cX5_stands 2 (some .int), Cond.methodLink RX5 86 yX5_indexOf, Cond.instanceMethod yX5_indexOf, Cond.selects RX5 yX5_indexOf yX5_indexOf, Cond.code yX5_indexOf cX5_indexOf 5 (some .long), Cond.methodLink RX5 71 yX5_begins, Cond.instanceMethod yX5_begins, Cond.selects RX5 yX5_begins yX5_begins, Cond.code yX5_begins cX5_begins 2 none]
def wsX5_bestRule_r3 : List Cond := [Cond.fieldLink RX5 26 "RestedArmsModel" "values" "[J", Cond.methodLink RX5 74 yX5_round, Cond.instanceMethod yX5_round, Cond.selects RX5 yX5_round yX5_round, Cond.code yX5_round cX5_round 5 none, Cond.fieldLink RX5 29 "RestedArmsModel" "owns" "[J", Cond.constantLong RX5 63 (1000), Cond.methodLink RX5 57 yX5_of, Cond.static yX5_of, Cond.code yX5_of cX5_of 4 (some .int), Cond.methodLink RX5 65 yX5_expected, Cond.instanceMethod yX5_expected, Cond.selects RX5 yX5_expected yX5_expected, Cond.code yX5_expected cX5_expected 5 (some .long), Cond.constantLong RX5 61 (8), Cond.methodLink RX5 78 yX5_indexBy, Cond.instanceMethod yX5_indexBy, Cond.selects RX5 yX5_indexBy yX5_indexBy, Cond.code yX5_indexBy cX5_indexBy 3 (some .long), Cond.methodLink RX5 117 yX5_pulls, Cond.static yX5_pulls, Cond.code yX5_pulls cX5_pulls 6 none, Cond.constantLong RX5 38 (1000000), Cond.methodLink RX5 101 yX5_down]
def wsX5_bestRule_r4 : List Cond := [Cond.static yX5_down, Cond.code yX5_down cX5_down 6 (some .long), Cond.methodLink RX5 105 yX5_goesOn, Cond.static yX5_goesOn, Cond.code yX5_goesOn cX5_goesOn 4 none, Cond.methodLink RX5 93 yX5_draws, Cond.static yX5_draws, Cond.code yX5_draws cX5_draws 1 (some .int), Cond.constantLong RX5 89 (6364136223846793005), Cond.constantLong RX5 91 (1442695040888963407), Cond.methodLink RX5 53 yX5_fails, Cond.instanceMethod yX5_fails, Cond.selects RX5 yX5_fails yX5_fails, Cond.code yX5_fails cX5_fails 2 (some .int)]
def wsX5_bestRule : List Cond := .code yX5_bestRule cX5_bestRule 2 (some .int) :: ((wsX5_bestRule_r1 ++ (wsX5_bestRule_r2 ++ (wsX5_bestRule_r3 ++ wsX5_bestRule_r4))) ++ wsX50)
def wsX5_least_r1 : List Cond := [Cond.fieldLink RX5 13 "RestedArmsModel" "then" "[J", Cond.methodLink RX5 202 yX5_tries, Cond.instanceMethod yX5_tries, Cond.selects RX5 yX5_tries yX5_tries, Cond.initialized RX5, Cond.code yX5_tries cX5_tries 2 none, Cond.fieldLink RX5 7 "RestedArmsModel" "now" "[J", Cond.methodLink RX5 114 yX5_chosen, Cond.instanceMethod yX5_chosen, Cond.selects RX5 yX5_chosen yX5_chosen, Cond.code yX5_chosen cX5_chosen 9 (some .int), Cond.constantLong RX5 36 (-1), Cond.methodLink RX5 111 yX5_worth, Cond.instanceMethod yX5_worth, Cond.selects RX5 yX5_worth yX5_worth, Cond.code yX5_worth cX5_worth 6 (some .long), Cond.constantLong RX5 109 (10), Cond.constantLong RX5 69 (100), Cond.methodLink RX5 97 yX5_isOther, Cond.static yX5_isOther, Cond.code yX5_isOther cX5_isOther 2 (some .boolean), Cond.methodLink RX5 82 yX5_stands, Cond.static yX5_stands, Cond.code yX5_stands cX5_stands 2 (some .int)]
def wsX5_least_r2 : List Cond := [Cond.methodLink RX5 86 yX5_indexOf, Cond.instanceMethod yX5_indexOf, Cond.selects RX5 yX5_indexOf yX5_indexOf, Cond.code yX5_indexOf cX5_indexOf 5 (some .long), Cond.methodLink RX5 71 yX5_begins, Cond.instanceMethod yX5_begins, Cond.selects RX5 yX5_begins yX5_begins, Cond.code yX5_begins cX5_begins 2 none, Cond.fieldLink RX5 26 "RestedArmsModel" "values" "[J", Cond.methodLink RX5 74 yX5_round, Cond.instanceMethod yX5_round, Cond.selects RX5 yX5_round yX5_round, Cond.code yX5_round cX5_round 5 none, Cond.fieldLink RX5 29 "RestedArmsModel" "owns" "[J", Cond.constantLong RX5 63 (1000), Cond.methodLink RX5 57 yX5_of, Cond.static yX5_of, Cond.code yX5_of cX5_of 4 (some .int), Cond.methodLink RX5 65 yX5_expected, Cond.instanceMethod yX5_expected, Cond.selects RX5 yX5_expected yX5_expected, Cond.code yX5_expected cX5_expected 5 (some .long), Cond.constantLong RX5 61 (8), Cond.methodLink RX5 78 yX5_indexBy]
def wsX5_least_r3 : List Cond := [Cond.instanceMethod yX5_indexBy, Cond.selects RX5 yX5_indexBy yX5_indexBy, Cond.code yX5_indexBy cX5_indexBy 3 (some .long)]
def wsX5_least : List Cond := .code yX5_least cX5_least 4 (some .int) :: ((wsX5_least_r1 ++ (wsX5_least_r2 ++ wsX5_least_r3)) ++ wsX50)
def wsX5_giftFor_r1 : List Cond := [Cond.fieldLink RX5 42 "RestedArmsModel" "thrown" "I", Cond.methodLink RX5 120 yX5_isArm, Cond.static yX5_isArm, Cond.initialized RX5, Cond.code yX5_isArm cX5_isArm 1 (some .boolean), Cond.methodLink RX5 46 yX5_in, Cond.static yX5_in, Cond.code yX5_in cX5_in 4 (some .boolean), Cond.methodLink RX5 124 yX5_isState, Cond.static yX5_isState, Cond.code yX5_isState cX5_isState 1 (some .boolean), Cond.methodLink RX5 212 yX5_least, Cond.instanceMethod yX5_least, Cond.selects RX5 yX5_least yX5_least, Cond.code yX5_least cX5_least 4 (some .int), Cond.fieldLink RX5 13 "RestedArmsModel" "then" "[J", Cond.methodLink RX5 202 yX5_tries, Cond.instanceMethod yX5_tries, Cond.selects RX5 yX5_tries yX5_tries, Cond.code yX5_tries cX5_tries 2 none, Cond.fieldLink RX5 7 "RestedArmsModel" "now" "[J", Cond.methodLink RX5 114 yX5_chosen, Cond.instanceMethod yX5_chosen, Cond.selects RX5 yX5_chosen yX5_chosen]
def wsX5_giftFor_r2 : List Cond := [Cond.code yX5_chosen cX5_chosen 9 (some .int), Cond.constantLong RX5 36 (-1), Cond.methodLink RX5 111 yX5_worth, Cond.instanceMethod yX5_worth, Cond.selects RX5 yX5_worth yX5_worth, Cond.code yX5_worth cX5_worth 6 (some .long), Cond.constantLong RX5 109 (10), Cond.constantLong RX5 69 (100), Cond.methodLink RX5 97 yX5_isOther, Cond.static yX5_isOther, Cond.code yX5_isOther cX5_isOther 2 (some .boolean), Cond.methodLink RX5 82 yX5_stands, Cond.static yX5_stands, Cond.code yX5_stands cX5_stands 2 (some .int), Cond.methodLink RX5 86 yX5_indexOf, Cond.instanceMethod yX5_indexOf, Cond.selects RX5 yX5_indexOf yX5_indexOf, Cond.code yX5_indexOf cX5_indexOf 5 (some .long), Cond.methodLink RX5 71 yX5_begins, Cond.instanceMethod yX5_begins, Cond.selects RX5 yX5_begins yX5_begins, Cond.code yX5_begins cX5_begins 2 none, Cond.fieldLink RX5 26 "RestedArmsModel" "values" "[J", Cond.methodLink RX5 74 yX5_round]
def wsX5_giftFor_r3 : List Cond := [Cond.instanceMethod yX5_round, Cond.selects RX5 yX5_round yX5_round, Cond.code yX5_round cX5_round 5 none, Cond.fieldLink RX5 29 "RestedArmsModel" "owns" "[J", Cond.constantLong RX5 63 (1000), Cond.methodLink RX5 57 yX5_of, Cond.static yX5_of, Cond.code yX5_of cX5_of 4 (some .int), Cond.methodLink RX5 65 yX5_expected, Cond.instanceMethod yX5_expected, Cond.selects RX5 yX5_expected yX5_expected, Cond.code yX5_expected cX5_expected 5 (some .long), Cond.constantLong RX5 61 (8), Cond.methodLink RX5 78 yX5_indexBy, Cond.instanceMethod yX5_indexBy, Cond.selects RX5 yX5_indexBy yX5_indexBy, Cond.code yX5_indexBy cX5_indexBy 3 (some .long), Cond.methodLink RX5 53 yX5_fails, Cond.instanceMethod yX5_fails, Cond.selects RX5 yX5_fails yX5_fails, Cond.code yX5_fails cX5_fails 2 (some .int)]
def wsX5_giftFor : List Cond := .code yX5_giftFor cX5_giftFor 3 (some .int) :: ((wsX5_giftFor_r1 ++ (wsX5_giftFor_r2 ++ wsX5_giftFor_r3)) ++ wsX50)
def wsX5_even : List Cond := .code yX5_even cX5_even 8 (some .double) :: ([.fieldLink RX5 7 "RestedArmsModel" "now" "[J"] ++ wsX50)
def wsX5_evenness : List Cond := .code yX5_evenness cX5_evenness 1 (some .double) :: ([.fieldLink RX5 42 "RestedArmsModel" "thrown" "I", .methodLink RX5 215 yX5_even, .instanceMethod yX5_even, .selects RX5 yX5_even yX5_even, .initialized RX5, .code yX5_even cX5_even 8 (some .double), .fieldLink RX5 7 "RestedArmsModel" "now" "[J"] ++ wsX50)
def wsJxe99ae_isNaN_b9ae7 : List Cond := .code yJxe99ae_isNaN_b9ae7 cJxe99ae_isNaN_b9ae7 2 (some .boolean) :: ([])
def wsJxe99ae_doubleToLongBits_ccdee : List Cond := .code yJxe99ae_doubleToLongBits_ccdee cJxe99ae_doubleToLongBits_ccdee 2 (some .long) :: ([.methodLink RJxe99ae 134 ⟨"java/lang/Double", "doubleToRawLongBits", "(D)J"⟩, .native ⟨"java/lang/Double", "doubleToRawLongBits", "(D)J"⟩, .static ⟨"java/lang/Double", "doubleToRawLongBits", "(D)J"⟩, .initialized "java/lang/Double", .constantLong RJxe99ae 137 (9221120237041090560), .methodLink RJxe99ae 122 yJxe99ae_isNaN_b9ae7, .static yJxe99ae_isNaN_b9ae7, .initialized RJxe99ae, .code yJxe99ae_isNaN_b9ae7 cJxe99ae_isNaN_b9ae7 2 (some .boolean)])
def wsX5_digest_r1 : List Cond := [Cond.fieldLink RX5 42 "RestedArmsModel" "thrown" "I", Cond.constantLong RX5 219 (2843), Cond.constantLong RX5 221 (31), Cond.fieldLink RX5 7 "RestedArmsModel" "now" "[J", Cond.fieldLink RX5 150 "RestedArmsModel" "typed" "I", Cond.fieldLink RX5 19 "RestedArmsModel" "text" "[I", Cond.methodLink RX5 199 yX5_counted, Cond.instanceMethod yX5_counted, Cond.selects RX5 yX5_counted yX5_counted, Cond.initialized RX5, Cond.code yX5_counted cX5_counted 2 (some .int), Cond.fieldLink RX5 50 "RestedArmsModel" "kept" "I", Cond.methodLink RX5 196 yX5_ofArm, Cond.instanceMethod yX5_ofArm, Cond.selects RX5 yX5_ofArm yX5_ofArm, Cond.code yX5_ofArm cX5_ofArm 3 (some .int), Cond.methodLink RX5 190 yX5_greatest, Cond.instanceMethod yX5_greatest, Cond.selects RX5 yX5_greatest yX5_greatest, Cond.code yX5_greatest cX5_greatest 4 (some .int), Cond.methodLink RX5 86 yX5_indexOf, Cond.instanceMethod yX5_indexOf, Cond.selects RX5 yX5_indexOf yX5_indexOf, Cond.code yX5_indexOf cX5_indexOf 5 (some .long)]
def wsX5_digest_r2 : List Cond := [Cond.methodLink RX5 71 yX5_begins, Cond.instanceMethod yX5_begins, Cond.selects RX5 yX5_begins yX5_begins, Cond.code yX5_begins cX5_begins 2 none, Cond.fieldLink RX5 26 "RestedArmsModel" "values" "[J", Cond.methodLink RX5 74 yX5_round, Cond.instanceMethod yX5_round, Cond.selects RX5 yX5_round yX5_round, Cond.code yX5_round cX5_round 5 none, Cond.fieldLink RX5 29 "RestedArmsModel" "owns" "[J", Cond.constantLong RX5 63 (1000), Cond.constantLong RX5 69 (100), Cond.methodLink RX5 57 yX5_of, Cond.static yX5_of, Cond.code yX5_of cX5_of 4 (some .int), Cond.methodLink RX5 65 yX5_expected, Cond.instanceMethod yX5_expected, Cond.selects RX5 yX5_expected yX5_expected, Cond.code yX5_expected cX5_expected 5 (some .long), Cond.constantLong RX5 61 (8), Cond.methodLink RX5 78 yX5_indexBy, Cond.instanceMethod yX5_indexBy, Cond.selects RX5 yX5_indexBy yX5_indexBy, Cond.code yX5_indexBy cX5_indexBy 3 (some .long)]
def wsX5_digest_r3 : List Cond := [Cond.methodLink RX5 193 yX5_rounds, Cond.instanceMethod yX5_rounds, Cond.selects RX5 yX5_rounds yX5_rounds, Cond.code yX5_rounds cX5_rounds 7 (some .int), Cond.methodLink RX5 82 yX5_stands, Cond.static yX5_stands, Cond.code yX5_stands cX5_stands 2 (some .int), Cond.methodLink RX5 186 yX5_ofState, Cond.instanceMethod yX5_ofState, Cond.selects RX5 yX5_ofState yX5_ofState, Cond.code yX5_ofState cX5_ofState 4 (some .int), Cond.methodLink RX5 183 yX5_reached, Cond.instanceMethod yX5_reached, Cond.selects RX5 yX5_reached yX5_reached, Cond.code yX5_reached cX5_reached 6 (some .int), Cond.methodLink RX5 114 yX5_chosen, Cond.instanceMethod yX5_chosen, Cond.selects RX5 yX5_chosen yX5_chosen, Cond.code yX5_chosen cX5_chosen 9 (some .int), Cond.constantLong RX5 36 (-1), Cond.methodLink RX5 111 yX5_worth, Cond.instanceMethod yX5_worth, Cond.selects RX5 yX5_worth yX5_worth, Cond.code yX5_worth cX5_worth 6 (some .long)]
def wsX5_digest_r4 : List Cond := [Cond.constantLong RX5 109 (10), Cond.methodLink RX5 97 yX5_isOther, Cond.static yX5_isOther, Cond.code yX5_isOther cX5_isOther 2 (some .boolean), Cond.methodLink RX5 205 yX5_byPlay, Cond.instanceMethod yX5_byPlay, Cond.selects RX5 yX5_byPlay yX5_byPlay, Cond.code yX5_byPlay cX5_byPlay 3 (some .long), Cond.fieldLink RX5 13 "RestedArmsModel" "then" "[J", Cond.methodLink RX5 202 yX5_tries, Cond.instanceMethod yX5_tries, Cond.selects RX5 yX5_tries yX5_tries, Cond.code yX5_tries cX5_tries 2 none, Cond.methodLink RX5 147 yX5_plays, Cond.instanceMethod yX5_plays, Cond.selects RX5 yX5_plays yX5_plays, Cond.code yX5_plays cX5_plays 5 none, Cond.methodLink RX5 117 yX5_pulls, Cond.static yX5_pulls, Cond.code yX5_pulls cX5_pulls 6 none, Cond.constantLong RX5 38 (1000000), Cond.methodLink RX5 101 yX5_down, Cond.static yX5_down, Cond.code yX5_down cX5_down 6 (some .long)]
def wsX5_digest_r5 : List Cond := [Cond.methodLink RX5 105 yX5_goesOn, Cond.static yX5_goesOn, Cond.code yX5_goesOn cX5_goesOn 4 none, Cond.methodLink RX5 93 yX5_draws, Cond.static yX5_draws, Cond.code yX5_draws cX5_draws 1 (some .int), Cond.constantLong RX5 89 (6364136223846793005), Cond.constantLong RX5 91 (1442695040888963407), Cond.methodLink RX5 209 yX5_best, Cond.instanceMethod yX5_best, Cond.selects RX5 yX5_best yX5_best, Cond.code yX5_best cX5_best 4 (some .int), Cond.methodLink RX5 212 yX5_least, Cond.instanceMethod yX5_least, Cond.selects RX5 yX5_least yX5_least, Cond.code yX5_least cX5_least 4 (some .int), Cond.methodLink RX5 215 yX5_even, Cond.instanceMethod yX5_even, Cond.selects RX5 yX5_even yX5_even, Cond.code yX5_even cX5_even 8 (some .double), Cond.methodLink RX5 223 yJxe99ae_doubleToLongBits_ccdee, Cond.static yJxe99ae_doubleToLongBits_ccdee, Cond.initialized RJxe99ae, Cond.code yJxe99ae_doubleToLongBits_ccdee cJxe99ae_doubleToLongBits_ccdee 2 (some .long)]
def wsX5_digest_r6 : List Cond := [Cond.methodLink RJxe99ae 134 ⟨"java/lang/Double", "doubleToRawLongBits", "(D)J"⟩, Cond.native ⟨"java/lang/Double", "doubleToRawLongBits", "(D)J"⟩, Cond.static ⟨"java/lang/Double", "doubleToRawLongBits", "(D)J"⟩, Cond.initialized "java/lang/Double", Cond.constantLong RJxe99ae 137 (9221120237041090560), Cond.methodLink RJxe99ae 122 yJxe99ae_isNaN_b9ae7, Cond.static yJxe99ae_isNaN_b9ae7, Cond.code yJxe99ae_isNaN_b9ae7 cJxe99ae_isNaN_b9ae7 2 (some .boolean)]
def wsX5_digest : List Cond := .code yX5_digest cX5_digest 6 (some .long) :: ((wsX5_digest_r1 ++ (wsX5_digest_r2 ++ (wsX5_digest_r3 ++ (wsX5_digest_r4 ++ (wsX5_digest_r5 ++ wsX5_digest_r6))))) ++ wsX50)
def wsJ9_max_7cf53 : List Cond := .code yJ9_max_7cf53 cJ9_max_7cf53 2 (some .int) :: ([])
def wsJ9_max_f86c9 : List Cond := .code yJ9_max_f86c9 cJ9_max_f86c9 4 (some .long) :: ([])
def wsJ9_min_7cf53 : List Cond := .code yJ9_min_7cf53 cJ9_min_7cf53 2 (some .int) :: ([])
def wsL_gift_r1 : List Cond := [Cond.classLink RL 13 "java/lang/IndexOutOfBoundsException", Cond.classLink RL 15 "java/lang/IllegalArgumentException", Cond.methodLink RL 7 yX4_gift, Cond.instanceMethod yX4_gift, Cond.selects RX4 yX4_gift yX4_gift, Cond.initialized RX4, Cond.code yX4_gift cX4_gift 6 (some .int), Cond.classLink RX4 52 "java/lang/IllegalArgumentException", Cond.initialized "java/lang/IllegalArgumentException", Cond.fieldLink RX4 22 "RestedArms" "history" "LRestedArms$History;", Cond.fieldLink RX4 10 "RestedArms" "now" "LRestedArms$Board;", Cond.fieldLink RX4 67 "RestedArms$Board" "gifts" "[I", Cond.fieldLink RX4 29 "RestedArms" "indices" "LRestedArms$Indices;", Cond.methodLink RX4 44 yX4_needState, Cond.static yX4_needState, Cond.code yX4_needState cX4_needState 2 none, Cond.classLink RX4 302 "java/lang/IndexOutOfBoundsException", Cond.initialized "java/lang/IndexOutOfBoundsException", Cond.methodLink RX4 48 yX4_isWithin, Cond.static yX4_isWithin, Cond.code yX4_isWithin cX4_isWithin 3 (some .boolean), Cond.methodLink RX4 59 yX1_keep, Cond.instanceMethod yX1_keep, Cond.selects RX1 yX1_keep yX1_keep]
def wsL_gift_r2 : List Cond := [Cond.initialized RX1, Cond.code yX1_keep cX1_keep 3 none, Cond.fieldLink RX1 18 "RestedArms$History" "count" "I", Cond.fieldLink RX1 11 "RestedArms$History" "saved" "[LRestedArms$Board;", Cond.methodLink RX1 22 yX1_moveOldestBehind, Cond.instanceMethod yX1_moveOldestBehind, Cond.selects RX1 yX1_moveOldestBehind yX1_moveOldestBehind, Cond.code yX1_moveOldestBehind cX1_moveOldestBehind 3 none, Cond.methodLink RX1 25 yX1_boardAt, Cond.instanceMethod yX1_boardAt, Cond.selects RX1 yX1_boardAt yX1_boardAt, Cond.code yX1_boardAt cX1_boardAt 2 (some (.object "RestedArms$Board")), Cond.methodLink RX1 29 yX0_copy, Cond.instanceMethod yX0_copy, Cond.selects RX0 yX0_copy yX0_copy, Cond.initialized RX0, Cond.code yX0_copy cX0_copy 2 none, Cond.fieldLink RX0 9 "RestedArms$Board" "gifts" "[I", Cond.methodLink RX0 46 arraycopyName, Cond.native arraycopyName, Cond.static arraycopyName, Cond.initialized "java/lang/System", Cond.fieldLink RX0 15 "RestedArms$Board" "goods" "[I", Cond.fieldLink RX0 18 "RestedArms$Board" "bads" "[I"]
def wsL_gift_r3 : List Cond := [Cond.fieldLink RX0 21 "RestedArms$Board" "chances" "[I", Cond.fieldLink RX0 24 "RestedArms$Board" "places" "[I", Cond.fieldLink RX0 27 "RestedArms$Board" "pulls" "[I", Cond.fieldLink RX0 30 "RestedArms$Board" "settings" "[I", Cond.fieldLink RX0 52 "RestedArms$Board" "changes" "I", Cond.fieldLink RX0 33 "RestedArms$Board" "last" "I", Cond.fieldLink RX0 55 "RestedArms$Board" "brought" "J", Cond.fieldLink RX0 39 "RestedArms$Board" "weight" "J", Cond.fieldLink RX0 43 "RestedArms$Board" "row" "J", Cond.methodLink RX4 63 yX4_slotOf, Cond.static yX4_slotOf, Cond.code yX4_slotOf cX4_slotOf 2 (some .int), Cond.methodLink RX4 71 yX4_at, Cond.static yX4_at, Cond.code yX4_at cX4_at 2 (some .int), Cond.methodLink RX4 75 yX4_store, Cond.static yX4_store, Cond.code yX4_store cX4_store 3 none, Cond.methodLink RX4 79 yX2_forgetArm, Cond.instanceMethod yX2_forgetArm, Cond.selects RX2 yX2_forgetArm yX2_forgetArm, Cond.initialized RX2, Cond.code yX2_forgetArm cX2_forgetArm 2 none, Cond.fieldLink RX2 15 "RestedArms$Indices" "fresh" "[Z"]
def wsL_gift : List Cond := .codeWith yL_gift cL_gift 6 (some .int) [(0, 12, 15, 13), (0, 12, 19, 15)] :: ((wsL_gift_r1 ++ (wsL_gift_r2 ++ wsL_gift_r3)) ++ wsX40 ++ wsX00 ++ wsX10 ++ wsX20 ++ (vx_atS RX4 56 "java/lang/IllegalArgumentException" ["java/lang/RuntimeException", "java/lang/Exception"]).filter goodWord ++ (vx_atS RX4 306 "java/lang/IndexOutOfBoundsException" ["java/lang/RuntimeException", "java/lang/Exception"]).filter goodWord)
def wsL_way_r1 : List Cond := [Cond.classLink RL 13 "java/lang/IndexOutOfBoundsException", Cond.classLink RL 15 "java/lang/IllegalArgumentException", Cond.methodLink RL 17 yX4_way, Cond.instanceMethod yX4_way, Cond.selects RX4 yX4_way yX4_way, Cond.initialized RX4, Cond.code yX4_way cX4_way 8 (some .int), Cond.classLink RX4 52 "java/lang/IllegalArgumentException", Cond.initialized "java/lang/IllegalArgumentException", Cond.fieldLink RX4 22 "RestedArms" "history" "LRestedArms$History;", Cond.fieldLink RX4 10 "RestedArms" "now" "LRestedArms$Board;", Cond.fieldLink RX4 85 "RestedArms$Board" "goods" "[I", Cond.fieldLink RX4 88 "RestedArms$Board" "bads" "[I", Cond.fieldLink RX4 91 "RestedArms$Board" "chances" "[I", Cond.fieldLink RX4 29 "RestedArms" "indices" "LRestedArms$Indices;", Cond.methodLink RX4 44 yX4_needState, Cond.static yX4_needState, Cond.code yX4_needState cX4_needState 2 none, Cond.classLink RX4 302 "java/lang/IndexOutOfBoundsException", Cond.initialized "java/lang/IndexOutOfBoundsException", Cond.methodLink RX4 48 yX4_isWithin, Cond.static yX4_isWithin, Cond.code yX4_isWithin cX4_isWithin 3 (some .boolean), Cond.methodLink RX4 59 yX1_keep]
def wsL_way_r2 : List Cond := [Cond.instanceMethod yX1_keep, Cond.selects RX1 yX1_keep yX1_keep, Cond.initialized RX1, Cond.code yX1_keep cX1_keep 3 none, Cond.fieldLink RX1 18 "RestedArms$History" "count" "I", Cond.fieldLink RX1 11 "RestedArms$History" "saved" "[LRestedArms$Board;", Cond.methodLink RX1 22 yX1_moveOldestBehind, Cond.instanceMethod yX1_moveOldestBehind, Cond.selects RX1 yX1_moveOldestBehind yX1_moveOldestBehind, Cond.code yX1_moveOldestBehind cX1_moveOldestBehind 3 none, Cond.methodLink RX1 25 yX1_boardAt, Cond.instanceMethod yX1_boardAt, Cond.selects RX1 yX1_boardAt yX1_boardAt, Cond.code yX1_boardAt cX1_boardAt 2 (some (.object "RestedArms$Board")), Cond.methodLink RX1 29 yX0_copy, Cond.instanceMethod yX0_copy, Cond.selects RX0 yX0_copy yX0_copy, Cond.initialized RX0, Cond.code yX0_copy cX0_copy 2 none, Cond.fieldLink RX0 9 "RestedArms$Board" "gifts" "[I", Cond.methodLink RX0 46 arraycopyName, Cond.native arraycopyName, Cond.static arraycopyName, Cond.initialized "java/lang/System"]
def wsL_way_r3 : List Cond := [Cond.fieldLink RX0 15 "RestedArms$Board" "goods" "[I", Cond.fieldLink RX0 18 "RestedArms$Board" "bads" "[I", Cond.fieldLink RX0 21 "RestedArms$Board" "chances" "[I", Cond.fieldLink RX0 24 "RestedArms$Board" "places" "[I", Cond.fieldLink RX0 27 "RestedArms$Board" "pulls" "[I", Cond.fieldLink RX0 30 "RestedArms$Board" "settings" "[I", Cond.fieldLink RX0 52 "RestedArms$Board" "changes" "I", Cond.fieldLink RX0 33 "RestedArms$Board" "last" "I", Cond.fieldLink RX0 55 "RestedArms$Board" "brought" "J", Cond.fieldLink RX0 39 "RestedArms$Board" "weight" "J", Cond.fieldLink RX0 43 "RestedArms$Board" "row" "J", Cond.methodLink RX4 63 yX4_slotOf, Cond.static yX4_slotOf, Cond.code yX4_slotOf cX4_slotOf 2 (some .int), Cond.methodLink RX4 71 yX4_at, Cond.static yX4_at, Cond.code yX4_at cX4_at 2 (some .int), Cond.methodLink RX4 75 yX4_store, Cond.static yX4_store, Cond.code yX4_store cX4_store 3 none, Cond.methodLink RX4 79 yX2_forgetArm, Cond.instanceMethod yX2_forgetArm, Cond.selects RX2 yX2_forgetArm yX2_forgetArm, Cond.initialized RX2]
def wsL_way_r4 : List Cond := [Cond.code yX2_forgetArm cX2_forgetArm 2 none, Cond.fieldLink RX2 15 "RestedArms$Indices" "fresh" "[Z"]
def wsL_way : List Cond := .codeWith yL_way cL_way 8 (some .int) [(0, 16, 19, 13), (0, 16, 23, 15)] :: ((wsL_way_r1 ++ (wsL_way_r2 ++ (wsL_way_r3 ++ wsL_way_r4))) ++ wsX40 ++ wsX00 ++ wsX10 ++ wsX20 ++ (vx_atS RX4 56 "java/lang/IllegalArgumentException" ["java/lang/RuntimeException", "java/lang/Exception"]).filter goodWord ++ (vx_atS RX4 306 "java/lang/IndexOutOfBoundsException" ["java/lang/RuntimeException", "java/lang/Exception"]).filter goodWord)
def wsL_put_r1 : List Cond := [Cond.classLink RL 13 "java/lang/IndexOutOfBoundsException", Cond.methodLink RL 21 yX4_put, Cond.instanceMethod yX4_put, Cond.selects RX4 yX4_put yX4_put, Cond.initialized RX4, Cond.code yX4_put cX4_put 4 (some .int), Cond.fieldLink RX4 22 "RestedArms" "history" "LRestedArms$History;", Cond.fieldLink RX4 10 "RestedArms" "now" "LRestedArms$Board;", Cond.fieldLink RX4 94 "RestedArms$Board" "places" "[I", Cond.methodLink RX4 44 yX4_needState, Cond.static yX4_needState, Cond.code yX4_needState cX4_needState 2 none, Cond.classLink RX4 302 "java/lang/IndexOutOfBoundsException", Cond.initialized "java/lang/IndexOutOfBoundsException", Cond.methodLink RX4 48 yX4_isWithin, Cond.static yX4_isWithin, Cond.code yX4_isWithin cX4_isWithin 3 (some .boolean), Cond.methodLink RX4 59 yX1_keep, Cond.instanceMethod yX1_keep, Cond.selects RX1 yX1_keep yX1_keep, Cond.initialized RX1, Cond.code yX1_keep cX1_keep 3 none, Cond.fieldLink RX1 18 "RestedArms$History" "count" "I", Cond.fieldLink RX1 11 "RestedArms$History" "saved" "[LRestedArms$Board;"]
def wsL_put_r2 : List Cond := [Cond.methodLink RX1 22 yX1_moveOldestBehind, Cond.instanceMethod yX1_moveOldestBehind, Cond.selects RX1 yX1_moveOldestBehind yX1_moveOldestBehind, Cond.code yX1_moveOldestBehind cX1_moveOldestBehind 3 none, Cond.methodLink RX1 25 yX1_boardAt, Cond.instanceMethod yX1_boardAt, Cond.selects RX1 yX1_boardAt yX1_boardAt, Cond.code yX1_boardAt cX1_boardAt 2 (some (.object "RestedArms$Board")), Cond.methodLink RX1 29 yX0_copy, Cond.instanceMethod yX0_copy, Cond.selects RX0 yX0_copy yX0_copy, Cond.initialized RX0, Cond.code yX0_copy cX0_copy 2 none, Cond.fieldLink RX0 9 "RestedArms$Board" "gifts" "[I", Cond.methodLink RX0 46 arraycopyName, Cond.native arraycopyName, Cond.static arraycopyName, Cond.initialized "java/lang/System", Cond.fieldLink RX0 15 "RestedArms$Board" "goods" "[I", Cond.fieldLink RX0 18 "RestedArms$Board" "bads" "[I", Cond.fieldLink RX0 21 "RestedArms$Board" "chances" "[I", Cond.fieldLink RX0 24 "RestedArms$Board" "places" "[I", Cond.fieldLink RX0 27 "RestedArms$Board" "pulls" "[I", Cond.fieldLink RX0 30 "RestedArms$Board" "settings" "[I"]
def wsL_put_r3 : List Cond := [Cond.fieldLink RX0 52 "RestedArms$Board" "changes" "I", Cond.fieldLink RX0 33 "RestedArms$Board" "last" "I", Cond.fieldLink RX0 55 "RestedArms$Board" "brought" "J", Cond.fieldLink RX0 39 "RestedArms$Board" "weight" "J", Cond.fieldLink RX0 43 "RestedArms$Board" "row" "J", Cond.methodLink RX4 71 yX4_at, Cond.static yX4_at, Cond.code yX4_at cX4_at 2 (some .int), Cond.methodLink RX4 75 yX4_store, Cond.static yX4_store, Cond.code yX4_store cX4_store 3 none]
def wsL_put : List Cond := .codeWith yL_put cL_put 5 (some .int) [(0, 10, 13, 13)] :: ((wsL_put_r1 ++ (wsL_put_r2 ++ wsL_put_r3)) ++ wsX40 ++ wsX00 ++ wsX10 ++ (vx_atS RX4 306 "java/lang/IndexOutOfBoundsException" ["java/lang/RuntimeException", "java/lang/Exception"]).filter goodWord)
def wsL_set_r1 : List Cond := [Cond.classLink RL 13 "java/lang/IndexOutOfBoundsException", Cond.classLink RL 15 "java/lang/IllegalArgumentException", Cond.methodLink RL 25 yX4_set, Cond.instanceMethod yX4_set, Cond.selects RX4 yX4_set yX4_set, Cond.initialized RX4, Cond.code yX4_set cX4_set 4 (some .int), Cond.classLink RX4 52 "java/lang/IllegalArgumentException", Cond.initialized "java/lang/IllegalArgumentException", Cond.fieldLink RX4 100 "RestedArms" "LEAST_SETTING" "[I", Cond.fieldLink RX4 103 "RestedArms" "GREATEST_SETTING" "[I", Cond.fieldLink RX4 22 "RestedArms" "history" "LRestedArms$History;", Cond.fieldLink RX4 10 "RestedArms" "now" "LRestedArms$Board;", Cond.fieldLink RX4 108 "RestedArms$Board" "settings" "[I", Cond.fieldLink RX4 29 "RestedArms" "indices" "LRestedArms$Indices;", Cond.methodLink RX4 97 yX4_needSetting, Cond.static yX4_needSetting, Cond.code yX4_needSetting cX4_needSetting 1 none, Cond.classLink RX4 302 "java/lang/IndexOutOfBoundsException", Cond.initialized "java/lang/IndexOutOfBoundsException", Cond.methodLink RX4 48 yX4_isWithin, Cond.static yX4_isWithin, Cond.code yX4_isWithin cX4_isWithin 3 (some .boolean), Cond.methodLink RX4 71 yX4_at]
def wsL_set_r2 : List Cond := [Cond.static yX4_at, Cond.code yX4_at cX4_at 2 (some .int), Cond.methodLink RX4 59 yX1_keep, Cond.instanceMethod yX1_keep, Cond.selects RX1 yX1_keep yX1_keep, Cond.initialized RX1, Cond.code yX1_keep cX1_keep 3 none, Cond.fieldLink RX1 18 "RestedArms$History" "count" "I", Cond.fieldLink RX1 11 "RestedArms$History" "saved" "[LRestedArms$Board;", Cond.methodLink RX1 22 yX1_moveOldestBehind, Cond.instanceMethod yX1_moveOldestBehind, Cond.selects RX1 yX1_moveOldestBehind yX1_moveOldestBehind, Cond.code yX1_moveOldestBehind cX1_moveOldestBehind 3 none, Cond.methodLink RX1 25 yX1_boardAt, Cond.instanceMethod yX1_boardAt, Cond.selects RX1 yX1_boardAt yX1_boardAt, Cond.code yX1_boardAt cX1_boardAt 2 (some (.object "RestedArms$Board")), Cond.methodLink RX1 29 yX0_copy, Cond.instanceMethod yX0_copy, Cond.selects RX0 yX0_copy yX0_copy, Cond.initialized RX0, Cond.code yX0_copy cX0_copy 2 none, Cond.fieldLink RX0 9 "RestedArms$Board" "gifts" "[I", Cond.methodLink RX0 46 arraycopyName]
def wsL_set_r3 : List Cond := [Cond.native arraycopyName, Cond.static arraycopyName, Cond.initialized "java/lang/System", Cond.fieldLink RX0 15 "RestedArms$Board" "goods" "[I", Cond.fieldLink RX0 18 "RestedArms$Board" "bads" "[I", Cond.fieldLink RX0 21 "RestedArms$Board" "chances" "[I", Cond.fieldLink RX0 24 "RestedArms$Board" "places" "[I", Cond.fieldLink RX0 27 "RestedArms$Board" "pulls" "[I", Cond.fieldLink RX0 30 "RestedArms$Board" "settings" "[I", Cond.fieldLink RX0 52 "RestedArms$Board" "changes" "I", Cond.fieldLink RX0 33 "RestedArms$Board" "last" "I", Cond.fieldLink RX0 55 "RestedArms$Board" "brought" "J", Cond.fieldLink RX0 39 "RestedArms$Board" "weight" "J", Cond.fieldLink RX0 43 "RestedArms$Board" "row" "J", Cond.methodLink RX4 75 yX4_store, Cond.static yX4_store, Cond.code yX4_store cX4_store 3 none, Cond.methodLink RX4 111 yX2_forgetAll, Cond.instanceMethod yX2_forgetAll, Cond.selects RX2 yX2_forgetAll yX2_forgetAll, Cond.initialized RX2, Cond.code yX2_forgetAll cX2_forgetAll 2 none, Cond.fieldLink RX2 15 "RestedArms$Indices" "fresh" "[Z"]
def wsL_set : List Cond := .codeWith yL_set cL_set 5 (some .int) [(0, 10, 13, 13), (0, 10, 17, 15)] :: ((wsL_set_r1 ++ (wsL_set_r2 ++ wsL_set_r3)) ++ wsX40 ++ wsX00 ++ wsX10 ++ wsX20 ++ (vx_atS RX4 56 "java/lang/IllegalArgumentException" ["java/lang/RuntimeException", "java/lang/Exception"]).filter goodWord ++ (vx_atS RX4 306 "java/lang/IndexOutOfBoundsException" ["java/lang/RuntimeException", "java/lang/Exception"]).filter goodWord)
def wsL_pull_r1 : List Cond := [Cond.classLink RL 13 "java/lang/IndexOutOfBoundsException", Cond.classLink RL 32 "java/lang/IllegalStateException", Cond.methodLink RL 28 yX4_pull, Cond.instanceMethod yX4_pull, Cond.selects RX4 yX4_pull yX4_pull, Cond.initialized RX4, Cond.code yX4_pull cX4_pull 2 (some .int), Cond.classLink RX4 121 "java/lang/IllegalStateException", Cond.initialized "java/lang/IllegalStateException", Cond.fieldLink RX4 10 "RestedArms" "now" "LRestedArms$Board;", Cond.fieldLink RX4 22 "RestedArms" "history" "LRestedArms$History;", Cond.fieldLink RX4 94 "RestedArms$Board" "places" "[I", Cond.methodLink RX4 114 yX4_needArm, Cond.static yX4_needArm, Cond.code yX4_needArm cX4_needArm 1 none, Cond.classLink RX4 302 "java/lang/IndexOutOfBoundsException", Cond.initialized "java/lang/IndexOutOfBoundsException", Cond.methodLink RX4 48 yX4_isWithin, Cond.static yX4_isWithin, Cond.code yX4_isWithin cX4_isWithin 3 (some .boolean), Cond.methodLink RX4 117 yX0_allPulls, Cond.instanceMethod yX0_allPulls, Cond.selects RX0 yX0_allPulls yX0_allPulls, Cond.initialized RX0]
def wsL_pull_r2 : List Cond := [Cond.code yX0_allPulls cX0_allPulls 3 (some .int), Cond.fieldLink RX0 27 "RestedArms$Board" "pulls" "[I", Cond.static yX4_at, Cond.code yX4_at cX4_at 2 (some .int), Cond.methodLink RX4 59 yX1_keep, Cond.instanceMethod yX1_keep, Cond.selects RX1 yX1_keep yX1_keep, Cond.initialized RX1, Cond.code yX1_keep cX1_keep 3 none, Cond.fieldLink RX1 18 "RestedArms$History" "count" "I", Cond.fieldLink RX1 11 "RestedArms$History" "saved" "[LRestedArms$Board;", Cond.methodLink RX1 22 yX1_moveOldestBehind, Cond.instanceMethod yX1_moveOldestBehind, Cond.selects RX1 yX1_moveOldestBehind yX1_moveOldestBehind, Cond.code yX1_moveOldestBehind cX1_moveOldestBehind 3 none, Cond.methodLink RX1 25 yX1_boardAt, Cond.instanceMethod yX1_boardAt, Cond.selects RX1 yX1_boardAt yX1_boardAt, Cond.code yX1_boardAt cX1_boardAt 2 (some (.object "RestedArms$Board")), Cond.methodLink RX1 29 yX0_copy, Cond.instanceMethod yX0_copy, Cond.selects RX0 yX0_copy yX0_copy, Cond.code yX0_copy cX0_copy 2 none, Cond.fieldLink RX0 9 "RestedArms$Board" "gifts" "[I"]
def wsL_pull_r3 : List Cond := [Cond.methodLink RX0 46 arraycopyName, Cond.native arraycopyName, Cond.static arraycopyName, Cond.initialized "java/lang/System", Cond.fieldLink RX0 15 "RestedArms$Board" "goods" "[I", Cond.fieldLink RX0 18 "RestedArms$Board" "bads" "[I", Cond.fieldLink RX0 21 "RestedArms$Board" "chances" "[I", Cond.fieldLink RX0 24 "RestedArms$Board" "places" "[I", Cond.fieldLink RX0 30 "RestedArms$Board" "settings" "[I", Cond.fieldLink RX0 52 "RestedArms$Board" "changes" "I", Cond.fieldLink RX0 33 "RestedArms$Board" "last" "I", Cond.fieldLink RX0 55 "RestedArms$Board" "brought" "J", Cond.fieldLink RX0 39 "RestedArms$Board" "weight" "J", Cond.fieldLink RX0 43 "RestedArms$Board" "row" "J", Cond.methodLink RX4 126 yX0_pullOnce, Cond.instanceMethod yX0_pullOnce, Cond.selects RX0 yX0_pullOnce yX0_pullOnce, Cond.code yX0_pullOnce cX0_pullOnce 5 none, Cond.constantLong RX0 72 (1000), Cond.constantLong RX0 37 (1000000), Cond.constantLong RX0 84 (100), Cond.static yX4_slotOf, Cond.code yX4_slotOf cX4_slotOf 2 (some .int), Cond.methodLink RX0 66 yX0_wouldChange]
def wsL_pull_r4 : List Cond := [Cond.instanceMethod yX0_wouldChange, Cond.selects RX0 yX0_wouldChange yX0_wouldChange, Cond.code yX0_wouldChange cX0_wouldChange 2 (some .boolean), Cond.methodLink RX0 78 yJ9_floorDiv_f86c9, Cond.static yJ9_floorDiv_f86c9, Cond.initialized RJ9, Cond.code yJ9_floorDiv_f86c9 cJ9_floorDiv_f86c9 6 (some .long), Cond.static yX4_store, Cond.code yX4_store cX4_store 3 none, Cond.methodLink RX0 86 yX0_goOn, Cond.instanceMethod yX0_goOn, Cond.selects RX0 yX0_goOn yX0_goOn, Cond.code yX0_goOn cX0_goOn 4 none, Cond.constantLong RX0 90 (6364136223846793005), Cond.constantLong RX0 92 (1442695040888963407), Cond.methodLink RX4 71 yX4_at]
def wsL_pull : List Cond := .codeWith yL_pull cL_pull 4 (some .int) [(0, 9, 12, 13), (0, 9, 15, 32)] :: ((wsL_pull_r1 ++ (wsL_pull_r2 ++ (wsL_pull_r3 ++ wsL_pull_r4))) ++ wsX40 ++ wsX00 ++ wsX10 ++ (vx_atS RX4 125 "java/lang/IllegalStateException" ["java/lang/RuntimeException", "java/lang/Exception"]).filter goodWord ++ (vx_atS RX4 306 "java/lang/IndexOutOfBoundsException" ["java/lang/RuntimeException", "java/lang/Exception"]).filter goodWord)
def wsL_play_r1 : List Cond := [Cond.classLink RL 15 "java/lang/IllegalArgumentException", Cond.classLink RL 32 "java/lang/IllegalStateException", Cond.methodLink RL 34 yX4_play, Cond.instanceMethod yX4_play, Cond.selects RX4 yX4_play yX4_play, Cond.initialized RX4, Cond.code yX4_play cX4_play 4 (some .int), Cond.classLink RX4 121 "java/lang/IllegalStateException", Cond.initialized "java/lang/IllegalStateException", Cond.fieldLink RX4 10 "RestedArms" "now" "LRestedArms$Board;", Cond.fieldLink RX4 22 "RestedArms" "history" "LRestedArms$History;", Cond.fieldLink RX4 29 "RestedArms" "indices" "LRestedArms$Indices;", Cond.fieldLink RX4 140 "RestedArms$Board" "changes" "I", Cond.methodLink RX4 129 yX4_needRule, Cond.static yX4_needRule, Cond.code yX4_needRule cX4_needRule 1 none, Cond.classLink RX4 52 "java/lang/IllegalArgumentException", Cond.initialized "java/lang/IllegalArgumentException", Cond.methodLink RX4 48 yX4_isWithin, Cond.static yX4_isWithin, Cond.code yX4_isWithin cX4_isWithin 3 (some .boolean), Cond.methodLink RX4 132 yX4_needPulls, Cond.static yX4_needPulls, Cond.code yX4_needPulls cX4_needPulls 1 none]
def wsL_play_r2 : List Cond := [Cond.methodLink RX4 117 yX0_allPulls, Cond.instanceMethod yX0_allPulls, Cond.selects RX0 yX0_allPulls yX0_allPulls, Cond.initialized RX0, Cond.code yX0_allPulls cX0_allPulls 3 (some .int), Cond.fieldLink RX0 27 "RestedArms$Board" "pulls" "[I", Cond.static yX4_at, Cond.code yX4_at cX4_at 2 (some .int), Cond.methodLink RX4 59 yX1_keep, Cond.instanceMethod yX1_keep, Cond.selects RX1 yX1_keep yX1_keep, Cond.initialized RX1, Cond.code yX1_keep cX1_keep 3 none, Cond.fieldLink RX1 18 "RestedArms$History" "count" "I", Cond.fieldLink RX1 11 "RestedArms$History" "saved" "[LRestedArms$Board;", Cond.methodLink RX1 22 yX1_moveOldestBehind, Cond.instanceMethod yX1_moveOldestBehind, Cond.selects RX1 yX1_moveOldestBehind yX1_moveOldestBehind, Cond.code yX1_moveOldestBehind cX1_moveOldestBehind 3 none, Cond.methodLink RX1 25 yX1_boardAt, Cond.instanceMethod yX1_boardAt, Cond.selects RX1 yX1_boardAt yX1_boardAt, Cond.code yX1_boardAt cX1_boardAt 2 (some (.object "RestedArms$Board")), Cond.methodLink RX1 29 yX0_copy]
def wsL_play_r3 : List Cond := [Cond.instanceMethod yX0_copy, Cond.selects RX0 yX0_copy yX0_copy, Cond.code yX0_copy cX0_copy 2 none, Cond.fieldLink RX0 9 "RestedArms$Board" "gifts" "[I", Cond.methodLink RX0 46 arraycopyName, Cond.native arraycopyName, Cond.static arraycopyName, Cond.initialized "java/lang/System", Cond.fieldLink RX0 15 "RestedArms$Board" "goods" "[I", Cond.fieldLink RX0 18 "RestedArms$Board" "bads" "[I", Cond.fieldLink RX0 21 "RestedArms$Board" "chances" "[I", Cond.fieldLink RX0 24 "RestedArms$Board" "places" "[I", Cond.fieldLink RX0 30 "RestedArms$Board" "settings" "[I", Cond.fieldLink RX0 52 "RestedArms$Board" "changes" "I", Cond.fieldLink RX0 33 "RestedArms$Board" "last" "I", Cond.fieldLink RX0 55 "RestedArms$Board" "brought" "J", Cond.fieldLink RX0 39 "RestedArms$Board" "weight" "J", Cond.fieldLink RX0 43 "RestedArms$Board" "row" "J", Cond.methodLink RX4 137 yX2_refresh, Cond.instanceMethod yX2_refresh, Cond.selects RX2 yX2_refresh yX2_refresh, Cond.initialized RX2, Cond.code yX2_refresh cX2_refresh 4 none, Cond.fieldLink RX2 15 "RestedArms$Indices" "fresh" "[Z"]
def wsL_play_r4 : List Cond := [Cond.fieldLink RX2 9 "RestedArms$Indices" "table" "[J", Cond.static yX4_slotOf, Cond.code yX4_slotOf cX4_slotOf 2 (some .int), Cond.methodLink RX2 29 yX2_find, Cond.instanceMethod yX2_find, Cond.selects RX2 yX2_find yX2_find, Cond.code yX2_find cX2_find 6 (some .long), Cond.fieldLink RX2 37 "RestedArms$Board" "settings" "[I", Cond.methodLink RX2 47 yX2_clearValues, Cond.instanceMethod yX2_clearValues, Cond.selects RX2 yX2_clearValues yX2_clearValues, Cond.code yX2_clearValues cX2_clearValues 2 none, Cond.fieldLink RX2 19 "RestedArms$Indices" "values" "[J", Cond.methodLink RX2 50 yX2_turn, Cond.instanceMethod yX2_turn, Cond.selects RX2 yX2_turn yX2_turn, Cond.code yX2_turn cX2_turn 18 none, Cond.fieldLink RX2 58 "RestedArms$Board" "chances" "[I", Cond.fieldLink RX2 61 "RestedArms$Board" "goods" "[I", Cond.fieldLink RX2 67 "RestedArms$Board" "bads" "[I", Cond.constantLong RX2 70 (8), Cond.constantLong RX2 78 (100), Cond.fieldLink RX2 22 "RestedArms$Indices" "own" "[J", Cond.constantLong RX2 80 (1000)]
def wsL_play_r5 : List Cond := [Cond.fieldLink RX2 82 "RestedArms$Board" "gifts" "[I", Cond.methodLink RX2 85 Lib.MathLoose.max_long.x, Cond.static Lib.MathLoose.max_long.x, Cond.initialized "java/lang/Math", Cond.code Lib.MathLoose.max_long.x Lib.MathLoose.max_long.code 4 (some .long), Cond.static yX4_at_, Cond.code yX4_at_ cX4_at_ 2 (some .long), Cond.methodLink RX2 72 yJ9_floorDiv_f86c9, Cond.static yJ9_floorDiv_f86c9, Cond.initialized RJ9, Cond.code yJ9_floorDiv_f86c9 cJ9_floorDiv_f86c9 6 (some .long), Cond.static yX4_store_, Cond.code yX4_store_ cX4_store_ 4 none, Cond.methodLink RX2 54 yX2_indexNow, Cond.instanceMethod yX2_indexNow, Cond.selects RX2 yX2_indexNow yX2_indexNow, Cond.code yX2_indexNow cX2_indexNow 3 (some .long), Cond.methodLink RX4 144 yX4_playOn, Cond.instanceMethod yX4_playOn, Cond.selects RX4 yX4_playOn yX4_playOn, Cond.code yX4_playOn cX4_playOn 5 none, Cond.methodLink RX4 223 yX4_chosenBy, Cond.instanceMethod yX4_chosenBy, Cond.selects RX4 yX4_chosenBy yX4_chosenBy]
def wsL_play_r6 : List Cond := [Cond.code yX4_chosenBy cX4_chosenBy 3 (some .int), Cond.fieldLink RX4 206 "RestedArms$Board" "last" "I", Cond.methodLink RX4 234 yX4_scoreAll, Cond.instanceMethod yX4_scoreAll, Cond.selects RX4 yX4_scoreAll yX4_scoreAll, Cond.code yX4_scoreAll cX4_scoreAll 7 none, Cond.fieldLink RX4 94 "RestedArms$Board" "places" "[I", Cond.fieldLink RX4 188 "RestedArms$Indices" "table" "[J", Cond.fieldLink RX4 67 "RestedArms$Board" "gifts" "[I", Cond.fieldLink RX4 40 "RestedArms" "scores" "[J", Cond.methodLink RX4 71 yX4_at, Cond.methodLink RX4 63 yX4_slotOf, Cond.methodLink RX4 191 yX4_at_, Cond.methodLink RX4 325 yX0_costOf, Cond.instanceMethod yX0_costOf, Cond.selects RX0 yX0_costOf yX0_costOf, Cond.code yX0_costOf cX0_costOf 5 (some .long), Cond.constantLong RX0 70 (10), Cond.methodLink RX0 66 yX0_wouldChange, Cond.instanceMethod yX0_wouldChange, Cond.selects RX0 yX0_wouldChange yX0_wouldChange, Cond.code yX0_wouldChange cX0_wouldChange 2 (some .boolean), Cond.methodLink RX4 328 yX4_store_, Cond.methodLink RX4 322 yX4_greatestScore]
def wsL_play_r7 : List Cond := [Cond.instanceMethod yX4_greatestScore, Cond.selects RX4 yX4_greatestScore yX4_greatestScore, Cond.code yX4_greatestScore cX4_greatestScore 4 (some .int), Cond.methodLink RX4 126 yX0_pullOnce, Cond.instanceMethod yX0_pullOnce, Cond.selects RX0 yX0_pullOnce yX0_pullOnce, Cond.code yX0_pullOnce cX0_pullOnce 5 none, Cond.constantLong RX0 72 (1000), Cond.constantLong RX0 37 (1000000), Cond.constantLong RX0 84 (100), Cond.methodLink RX0 78 yJ9_floorDiv_f86c9, Cond.static yX4_store, Cond.code yX4_store cX4_store 3 none, Cond.methodLink RX0 86 yX0_goOn, Cond.instanceMethod yX0_goOn, Cond.selects RX0 yX0_goOn yX0_goOn, Cond.code yX0_goOn cX0_goOn 4 none, Cond.constantLong RX0 90 (6364136223846793005), Cond.constantLong RX0 92 (1442695040888963407)]
def wsL_play : List Cond := .codeWith yL_play cL_play 5 (some .int) [(0, 10, 13, 15), (0, 10, 17, 32)] :: ((wsL_play_r1 ++ (wsL_play_r2 ++ (wsL_play_r3 ++ (wsL_play_r4 ++ (wsL_play_r5 ++ (wsL_play_r6 ++ wsL_play_r7)))))) ++ wsX40 ++ wsX00 ++ wsX10 ++ wsX20 ++ (vx_atS RX4 125 "java/lang/IllegalStateException" ["java/lang/RuntimeException", "java/lang/Exception"]).filter goodWord ++ (vx_atS RX4 56 "java/lang/IllegalArgumentException" ["java/lang/RuntimeException", "java/lang/Exception"]).filter goodWord)
def wsL_append : List Cond := .codeWith yL_append cL_append 4 (some .int) [(0, 9, 12, 15), (0, 9, 15, 32)] :: ([.classLink RL 15 "java/lang/IllegalArgumentException", .classLink RL 32 "java/lang/IllegalStateException", .methodLink RL 37 yX4_append, .instanceMethod yX4_append, .selects RX4 yX4_append yX4_append, .initialized RX4, .code yX4_append cX4_append 2 (some .int), .classLink RX4 52 "java/lang/IllegalArgumentException", .initialized "java/lang/IllegalArgumentException", .classLink RX4 121 "java/lang/IllegalStateException", .initialized "java/lang/IllegalStateException", .fieldLink RX4 36 "RestedArms" "text" "LRestedArms$Text;", .fieldLink RX4 154 "RestedArms$Text" "length" "I", .fieldLink RX4 159 "RestedArms$Text" "codes" "[I", .methodLink RX4 48 yX4_isWithin, .static yX4_isWithin, .code yX4_isWithin cX4_isWithin 3 (some .boolean), .methodLink RX4 75 yX4_store, .static yX4_store, .code yX4_store cX4_store 3 none] ++ wsX40 ++ wsX30 ++ (vx_atS RX4 56 "java/lang/IllegalArgumentException" ["java/lang/RuntimeException", "java/lang/Exception"]).filter goodWord ++ (vx_atS RX4 125 "java/lang/IllegalStateException" ["java/lang/RuntimeException", "java/lang/Exception"]).filter goodWord)
def wsL_read_r1 : List Cond := [Cond.classLink RL 15 "java/lang/IllegalArgumentException", Cond.methodLink RL 40 yX4_read, Cond.instanceMethod yX4_read, Cond.selects RX4 yX4_read yX4_read, Cond.initialized RX4, Cond.code yX4_read cX4_read 2 (some .int), Cond.classLink RX4 52 "java/lang/IllegalArgumentException", Cond.initialized "java/lang/IllegalArgumentException", Cond.fieldLink RX4 36 "RestedArms" "text" "LRestedArms$Text;", Cond.fieldLink RX4 22 "RestedArms" "history" "LRestedArms$History;", Cond.fieldLink RX4 10 "RestedArms" "now" "LRestedArms$Board;", Cond.fieldLink RX4 154 "RestedArms$Text" "length" "I", Cond.fieldLink RX4 29 "RestedArms" "indices" "LRestedArms$Indices;", Cond.methodLink RX4 165 yX3_isWhole, Cond.instanceMethod yX3_isWhole, Cond.selects RX3 yX3_isWhole yX3_isWhole, Cond.initialized RX3, Cond.code yX3_isWhole cX3_isWhole 3 (some .boolean), Cond.fieldLink RX3 15 "RestedArms$Text" "length" "I", Cond.fieldLink RX3 9 "RestedArms$Text" "codes" "[I", Cond.static yX4_at, Cond.code yX4_at cX4_at 2 (some .int), Cond.methodLink RX3 23 yX3_nextStage, Cond.static yX3_nextStage]
def wsL_read_r2 : List Cond := [Cond.code yX3_nextStage cX3_nextStage 2 (some .int), Cond.static yX4_isWithin, Cond.code yX4_isWithin cX4_isWithin 3 (some .boolean), Cond.methodLink RX3 52 yX3_isStateLetter, Cond.static yX3_isStateLetter, Cond.code yX3_isStateLetter cX3_isStateLetter 1 (some .boolean), Cond.methodLink RX3 56 yX3_firstDigit, Cond.static yX3_firstDigit, Cond.code yX3_firstDigit cX3_firstDigit 1 (some .int), Cond.methodLink RX3 60 yX3_behindGift, Cond.static yX3_behindGift, Cond.code yX3_behindGift cX3_behindGift 1 (some .int), Cond.methodLink RX4 59 yX1_keep, Cond.instanceMethod yX1_keep, Cond.selects RX1 yX1_keep yX1_keep, Cond.initialized RX1, Cond.code yX1_keep cX1_keep 3 none, Cond.fieldLink RX1 18 "RestedArms$History" "count" "I", Cond.fieldLink RX1 11 "RestedArms$History" "saved" "[LRestedArms$Board;", Cond.methodLink RX1 22 yX1_moveOldestBehind, Cond.instanceMethod yX1_moveOldestBehind, Cond.selects RX1 yX1_moveOldestBehind yX1_moveOldestBehind, Cond.code yX1_moveOldestBehind cX1_moveOldestBehind 3 none, Cond.methodLink RX1 25 yX1_boardAt]
def wsL_read_r3 : List Cond := [Cond.instanceMethod yX1_boardAt, Cond.selects RX1 yX1_boardAt yX1_boardAt, Cond.code yX1_boardAt cX1_boardAt 2 (some (.object "RestedArms$Board")), Cond.methodLink RX1 29 yX0_copy, Cond.instanceMethod yX0_copy, Cond.selects RX0 yX0_copy yX0_copy, Cond.initialized RX0, Cond.code yX0_copy cX0_copy 2 none, Cond.fieldLink RX0 9 "RestedArms$Board" "gifts" "[I", Cond.methodLink RX0 46 arraycopyName, Cond.native arraycopyName, Cond.static arraycopyName, Cond.initialized "java/lang/System", Cond.fieldLink RX0 15 "RestedArms$Board" "goods" "[I", Cond.fieldLink RX0 18 "RestedArms$Board" "bads" "[I", Cond.fieldLink RX0 21 "RestedArms$Board" "chances" "[I", Cond.fieldLink RX0 24 "RestedArms$Board" "places" "[I", Cond.fieldLink RX0 27 "RestedArms$Board" "pulls" "[I", Cond.fieldLink RX0 30 "RestedArms$Board" "settings" "[I", Cond.fieldLink RX0 52 "RestedArms$Board" "changes" "I", Cond.fieldLink RX0 33 "RestedArms$Board" "last" "I", Cond.fieldLink RX0 55 "RestedArms$Board" "brought" "J", Cond.fieldLink RX0 39 "RestedArms$Board" "weight" "J", Cond.fieldLink RX0 43 "RestedArms$Board" "row" "J"]
def wsL_read_r4 : List Cond := [Cond.methodLink RX4 171 yX3_moveInto, Cond.instanceMethod yX3_moveInto, Cond.selects RX3 yX3_moveInto yX3_moveInto, Cond.code yX3_moveInto cX3_moveInto 8 (some .int), Cond.fieldLink RX3 30 "RestedArms$Board" "gifts" "[I", Cond.fieldLink RX3 39 "RestedArms$Board" "goods" "[I", Cond.fieldLink RX3 42 "RestedArms$Board" "bads" "[I", Cond.fieldLink RX3 45 "RestedArms$Board" "chances" "[I", Cond.static yX4_slotOf, Cond.code yX4_slotOf cX4_slotOf 2 (some .int), Cond.static yX4_store, Cond.code yX4_store cX4_store 3 none, Cond.methodLink RX4 111 yX2_forgetAll, Cond.instanceMethod yX2_forgetAll, Cond.selects RX2 yX2_forgetAll yX2_forgetAll, Cond.initialized RX2, Cond.code yX2_forgetAll cX2_forgetAll 2 none, Cond.fieldLink RX2 15 "RestedArms$Indices" "fresh" "[Z"]
def wsL_read : List Cond := .codeWith yL_read cL_read 3 (some .int) [(0, 8, 11, 15)] :: ((wsL_read_r1 ++ (wsL_read_r2 ++ (wsL_read_r3 ++ wsL_read_r4))) ++ wsX40 ++ wsX30 ++ wsX10 ++ wsX00 ++ wsX20 ++ (vx_atS RX4 56 "java/lang/IllegalArgumentException" ["java/lang/RuntimeException", "java/lang/Exception"]).filter goodWord)
def wsL_undo_r1 : List Cond := [Cond.classLink RL 32 "java/lang/IllegalStateException", Cond.methodLink RL 44 yX4_undo, Cond.instanceMethod yX4_undo, Cond.selects RX4 yX4_undo yX4_undo, Cond.initialized RX4, Cond.code yX4_undo cX4_undo 1 (some .int), Cond.classLink RX4 121 "java/lang/IllegalStateException", Cond.initialized "java/lang/IllegalStateException", Cond.fieldLink RX4 22 "RestedArms" "history" "LRestedArms$History;", Cond.fieldLink RX4 175 "RestedArms$History" "count" "I", Cond.fieldLink RX4 10 "RestedArms" "now" "LRestedArms$Board;", Cond.fieldLink RX4 29 "RestedArms" "indices" "LRestedArms$Indices;", Cond.methodLink RX4 180 yX1_bringBack, Cond.instanceMethod yX1_bringBack, Cond.selects RX1 yX1_bringBack yX1_bringBack, Cond.initialized RX1, Cond.code yX1_bringBack cX1_bringBack 3 none, Cond.fieldLink RX1 18 "RestedArms$History" "count" "I", Cond.methodLink RX1 25 yX1_boardAt, Cond.instanceMethod yX1_boardAt, Cond.selects RX1 yX1_boardAt yX1_boardAt, Cond.code yX1_boardAt cX1_boardAt 2 (some (.object "RestedArms$Board")), Cond.fieldLink RX1 11 "RestedArms$History" "saved" "[LRestedArms$Board;", Cond.methodLink RX1 29 yX0_copy]
def wsL_undo_r2 : List Cond := [Cond.instanceMethod yX0_copy, Cond.selects RX0 yX0_copy yX0_copy, Cond.initialized RX0, Cond.code yX0_copy cX0_copy 2 none, Cond.fieldLink RX0 9 "RestedArms$Board" "gifts" "[I", Cond.methodLink RX0 46 arraycopyName, Cond.native arraycopyName, Cond.static arraycopyName, Cond.initialized "java/lang/System", Cond.fieldLink RX0 15 "RestedArms$Board" "goods" "[I", Cond.fieldLink RX0 18 "RestedArms$Board" "bads" "[I", Cond.fieldLink RX0 21 "RestedArms$Board" "chances" "[I", Cond.fieldLink RX0 24 "RestedArms$Board" "places" "[I", Cond.fieldLink RX0 27 "RestedArms$Board" "pulls" "[I", Cond.fieldLink RX0 30 "RestedArms$Board" "settings" "[I", Cond.fieldLink RX0 52 "RestedArms$Board" "changes" "I", Cond.fieldLink RX0 33 "RestedArms$Board" "last" "I", Cond.fieldLink RX0 55 "RestedArms$Board" "brought" "J", Cond.fieldLink RX0 39 "RestedArms$Board" "weight" "J", Cond.fieldLink RX0 43 "RestedArms$Board" "row" "J", Cond.methodLink RX4 111 yX2_forgetAll, Cond.instanceMethod yX2_forgetAll, Cond.selects RX2 yX2_forgetAll yX2_forgetAll, Cond.initialized RX2]
def wsL_undo_r3 : List Cond := [Cond.code yX2_forgetAll cX2_forgetAll 2 none, Cond.fieldLink RX2 15 "RestedArms$Indices" "fresh" "[Z"]
def wsL_undo : List Cond := .codeWith yL_undo cL_undo 3 (some .int) [(0, 8, 11, 32)] :: ((wsL_undo_r1 ++ (wsL_undo_r2 ++ wsL_undo_r3)) ++ wsX40 ++ wsX10 ++ wsX00 ++ wsX20 ++ (vx_atS RX4 125 "java/lang/IllegalStateException" ["java/lang/RuntimeException", "java/lang/Exception"]).filter goodWord)
def wsL_stateOf_r1 : List Cond := [Cond.classLink RL 13 "java/lang/IndexOutOfBoundsException", Cond.classLink RL 15 "java/lang/IllegalArgumentException", Cond.methodLink RL 47 yX4_stateOf, Cond.instanceMethod yX4_stateOf, Cond.selects RX4 yX4_stateOf yX4_stateOf, Cond.initialized RX4, Cond.code yX4_stateOf cX4_stateOf 5 (some .int), Cond.classLink RX4 52 "java/lang/IllegalArgumentException", Cond.initialized "java/lang/IllegalArgumentException", Cond.fieldLink RX4 10 "RestedArms" "now" "LRestedArms$Board;", Cond.fieldLink RX4 67 "RestedArms$Board" "gifts" "[I", Cond.fieldLink RX4 85 "RestedArms$Board" "goods" "[I", Cond.fieldLink RX4 88 "RestedArms$Board" "bads" "[I", Cond.fieldLink RX4 91 "RestedArms$Board" "chances" "[I", Cond.methodLink RX4 44 yX4_needState, Cond.static yX4_needState, Cond.code yX4_needState cX4_needState 2 none, Cond.classLink RX4 302 "java/lang/IndexOutOfBoundsException", Cond.initialized "java/lang/IndexOutOfBoundsException", Cond.methodLink RX4 48 yX4_isWithin, Cond.static yX4_isWithin, Cond.code yX4_isWithin cX4_isWithin 3 (some .boolean), Cond.methodLink RX4 63 yX4_slotOf, Cond.static yX4_slotOf]
def wsL_stateOf_r2 : List Cond := [Cond.code yX4_slotOf cX4_slotOf 2 (some .int), Cond.methodLink RX4 71 yX4_at, Cond.static yX4_at, Cond.code yX4_at cX4_at 2 (some .int), Cond.methodLink RX4 183 yX4_reachedFrom, Cond.instanceMethod yX4_reachedFrom, Cond.selects RX4 yX4_reachedFrom yX4_reachedFrom, Cond.code yX4_reachedFrom cX4_reachedFrom 6 (some .int), Cond.methodLink RX4 315 yX4_nextOf, Cond.instanceMethod yX4_nextOf, Cond.selects RX4 yX4_nextOf yX4_nextOf, Cond.code yX4_nextOf cX4_nextOf 5 (some .int)]
def wsL_stateOf : List Cond := .codeWith yL_stateOf cL_stateOf 6 (some .int) [(0, 12, 15, 13), (0, 12, 19, 15)] :: ((wsL_stateOf_r1 ++ wsL_stateOf_r2) ++ wsX40 ++ wsX00 ++ (vx_atS RX4 56 "java/lang/IllegalArgumentException" ["java/lang/RuntimeException", "java/lang/Exception"]).filter goodWord ++ (vx_atS RX4 306 "java/lang/IndexOutOfBoundsException" ["java/lang/RuntimeException", "java/lang/Exception"]).filter goodWord)
def wsL_index_r1 : List Cond := [Cond.classLink RL 13 "java/lang/IndexOutOfBoundsException", Cond.methodLink RL 50 yX4_index, Cond.instanceMethod yX4_index, Cond.selects RX4 yX4_index yX4_index, Cond.initialized RX4, Cond.code yX4_index cX4_index 3 (some .long), Cond.fieldLink RX4 29 "RestedArms" "indices" "LRestedArms$Indices;", Cond.fieldLink RX4 10 "RestedArms" "now" "LRestedArms$Board;", Cond.fieldLink RX4 188 "RestedArms$Indices" "table" "[J", Cond.methodLink RX4 44 yX4_needState, Cond.static yX4_needState, Cond.code yX4_needState cX4_needState 2 none, Cond.classLink RX4 302 "java/lang/IndexOutOfBoundsException", Cond.initialized "java/lang/IndexOutOfBoundsException", Cond.methodLink RX4 48 yX4_isWithin, Cond.static yX4_isWithin, Cond.code yX4_isWithin cX4_isWithin 3 (some .boolean), Cond.methodLink RX4 137 yX2_refresh, Cond.instanceMethod yX2_refresh, Cond.selects RX2 yX2_refresh yX2_refresh, Cond.initialized RX2, Cond.code yX2_refresh cX2_refresh 4 none, Cond.fieldLink RX2 15 "RestedArms$Indices" "fresh" "[Z", Cond.fieldLink RX2 9 "RestedArms$Indices" "table" "[J"]
def wsL_index_r2 : List Cond := [Cond.static yX4_slotOf, Cond.code yX4_slotOf cX4_slotOf 2 (some .int), Cond.methodLink RX2 29 yX2_find, Cond.instanceMethod yX2_find, Cond.selects RX2 yX2_find yX2_find, Cond.code yX2_find cX2_find 6 (some .long), Cond.fieldLink RX2 37 "RestedArms$Board" "settings" "[I", Cond.static yX4_at, Cond.code yX4_at cX4_at 2 (some .int), Cond.methodLink RX2 47 yX2_clearValues, Cond.instanceMethod yX2_clearValues, Cond.selects RX2 yX2_clearValues yX2_clearValues, Cond.code yX2_clearValues cX2_clearValues 2 none, Cond.fieldLink RX2 19 "RestedArms$Indices" "values" "[J", Cond.methodLink RX2 50 yX2_turn, Cond.instanceMethod yX2_turn, Cond.selects RX2 yX2_turn yX2_turn, Cond.code yX2_turn cX2_turn 18 none, Cond.fieldLink RX2 58 "RestedArms$Board" "chances" "[I", Cond.fieldLink RX2 61 "RestedArms$Board" "goods" "[I", Cond.fieldLink RX2 67 "RestedArms$Board" "bads" "[I", Cond.constantLong RX2 70 (8), Cond.constantLong RX2 78 (100), Cond.fieldLink RX2 22 "RestedArms$Indices" "own" "[J"]
def wsL_index_r3 : List Cond := [Cond.constantLong RX2 80 (1000), Cond.fieldLink RX2 82 "RestedArms$Board" "gifts" "[I", Cond.methodLink RX2 85 Lib.MathLoose.max_long.x, Cond.static Lib.MathLoose.max_long.x, Cond.initialized "java/lang/Math", Cond.code Lib.MathLoose.max_long.x Lib.MathLoose.max_long.code 4 (some .long), Cond.static yX4_at_, Cond.code yX4_at_ cX4_at_ 2 (some .long), Cond.methodLink RX2 72 yJ9_floorDiv_f86c9, Cond.static yJ9_floorDiv_f86c9, Cond.initialized RJ9, Cond.code yJ9_floorDiv_f86c9 cJ9_floorDiv_f86c9 6 (some .long), Cond.static yX4_store_, Cond.code yX4_store_ cX4_store_ 4 none, Cond.methodLink RX2 54 yX2_indexNow, Cond.instanceMethod yX2_indexNow, Cond.selects RX2 yX2_indexNow yX2_indexNow, Cond.code yX2_indexNow cX2_indexNow 3 (some .long), Cond.methodLink RX4 63 yX4_slotOf, Cond.methodLink RX4 191 yX4_at_]
def wsL_index : List Cond := .codeWith yL_index cL_index 5 (some .int) [(0, 9, 12, 13)] :: ((wsL_index_r1 ++ (wsL_index_r2 ++ wsL_index_r3)) ++ wsX40 ++ wsX20 ++ wsX00 ++ (vx_atS RX4 306 "java/lang/IndexOutOfBoundsException" ["java/lang/RuntimeException", "java/lang/Exception"]).filter goodWord)
def wsL_arm_r1 : List Cond := [Cond.classLink RL 13 "java/lang/IndexOutOfBoundsException", Cond.classLink RL 15 "java/lang/IllegalArgumentException", Cond.methodLink RL 54 yX4_arm, Cond.instanceMethod yX4_arm, Cond.selects RX4 yX4_arm yX4_arm, Cond.initialized RX4, Cond.code yX4_arm cX4_arm 3 (some .int), Cond.classLink RX4 52 "java/lang/IllegalArgumentException", Cond.initialized "java/lang/IllegalArgumentException", Cond.fieldLink RX4 10 "RestedArms" "now" "LRestedArms$Board;", Cond.fieldLink RX4 94 "RestedArms$Board" "places" "[I", Cond.fieldLink RX4 194 "RestedArms$Board" "pulls" "[I", Cond.fieldLink RX4 29 "RestedArms" "indices" "LRestedArms$Indices;", Cond.methodLink RX4 114 yX4_needArm, Cond.static yX4_needArm, Cond.code yX4_needArm cX4_needArm 1 none, Cond.classLink RX4 302 "java/lang/IndexOutOfBoundsException", Cond.initialized "java/lang/IndexOutOfBoundsException", Cond.methodLink RX4 48 yX4_isWithin, Cond.static yX4_isWithin, Cond.code yX4_isWithin cX4_isWithin 3 (some .boolean), Cond.methodLink RX4 71 yX4_at, Cond.static yX4_at, Cond.code yX4_at cX4_at 2 (some .int)]
def wsL_arm_r2 : List Cond := [Cond.methodLink RX4 137 yX2_refresh, Cond.instanceMethod yX2_refresh, Cond.selects RX2 yX2_refresh yX2_refresh, Cond.initialized RX2, Cond.code yX2_refresh cX2_refresh 4 none, Cond.fieldLink RX2 15 "RestedArms$Indices" "fresh" "[Z", Cond.fieldLink RX2 9 "RestedArms$Indices" "table" "[J", Cond.static yX4_slotOf, Cond.code yX4_slotOf cX4_slotOf 2 (some .int), Cond.methodLink RX2 29 yX2_find, Cond.instanceMethod yX2_find, Cond.selects RX2 yX2_find yX2_find, Cond.code yX2_find cX2_find 6 (some .long), Cond.fieldLink RX2 37 "RestedArms$Board" "settings" "[I", Cond.methodLink RX2 47 yX2_clearValues, Cond.instanceMethod yX2_clearValues, Cond.selects RX2 yX2_clearValues yX2_clearValues, Cond.code yX2_clearValues cX2_clearValues 2 none, Cond.fieldLink RX2 19 "RestedArms$Indices" "values" "[J", Cond.methodLink RX2 50 yX2_turn, Cond.instanceMethod yX2_turn, Cond.selects RX2 yX2_turn yX2_turn, Cond.code yX2_turn cX2_turn 18 none, Cond.fieldLink RX2 58 "RestedArms$Board" "chances" "[I"]
def wsL_arm_r3 : List Cond := [Cond.fieldLink RX2 61 "RestedArms$Board" "goods" "[I", Cond.fieldLink RX2 67 "RestedArms$Board" "bads" "[I", Cond.constantLong RX2 70 (8), Cond.constantLong RX2 78 (100), Cond.fieldLink RX2 22 "RestedArms$Indices" "own" "[J", Cond.constantLong RX2 80 (1000), Cond.fieldLink RX2 82 "RestedArms$Board" "gifts" "[I", Cond.methodLink RX2 85 Lib.MathLoose.max_long.x, Cond.static Lib.MathLoose.max_long.x, Cond.initialized "java/lang/Math", Cond.code Lib.MathLoose.max_long.x Lib.MathLoose.max_long.code 4 (some .long), Cond.static yX4_at_, Cond.code yX4_at_ cX4_at_ 2 (some .long), Cond.methodLink RX2 72 yJ9_floorDiv_f86c9, Cond.static yJ9_floorDiv_f86c9, Cond.initialized RJ9, Cond.code yJ9_floorDiv_f86c9 cJ9_floorDiv_f86c9 6 (some .long), Cond.static yX4_store_, Cond.code yX4_store_ cX4_store_ 4 none, Cond.methodLink RX2 54 yX2_indexNow, Cond.instanceMethod yX2_indexNow, Cond.selects RX2 yX2_indexNow yX2_indexNow, Cond.code yX2_indexNow cX2_indexNow 3 (some .long), Cond.methodLink RX4 197 yX4_bestState]
def wsL_arm_r4 : List Cond := [Cond.instanceMethod yX4_bestState, Cond.selects RX4 yX4_bestState yX4_bestState, Cond.code yX4_bestState cX4_bestState 4 (some .int), Cond.fieldLink RX4 188 "RestedArms$Indices" "table" "[J", Cond.methodLink RX4 63 yX4_slotOf, Cond.methodLink RX4 191 yX4_at_, Cond.methodLink RX4 201 yX4_roundsNeeded, Cond.instanceMethod yX4_roundsNeeded, Cond.selects RX4 yX4_roundsNeeded yX4_roundsNeeded, Cond.code yX4_roundsNeeded cX4_roundsNeeded 3 (some .int), Cond.methodLink RX4 318 yX2_leastRounds, Cond.instanceMethod yX2_leastRounds, Cond.selects RX2 yX2_leastRounds yX2_leastRounds, Cond.code yX2_leastRounds cX2_leastRounds 8 (some .int)]
def wsL_arm : List Cond := .codeWith yL_arm cL_arm 5 (some .int) [(0, 10, 13, 13), (0, 10, 17, 15)] :: ((wsL_arm_r1 ++ (wsL_arm_r2 ++ (wsL_arm_r3 ++ wsL_arm_r4))) ++ wsX40 ++ wsX00 ++ wsX20 ++ (vx_atS RX4 56 "java/lang/IllegalArgumentException" ["java/lang/RuntimeException", "java/lang/Exception"]).filter goodWord ++ (vx_atS RX4 306 "java/lang/IndexOutOfBoundsException" ["java/lang/RuntimeException", "java/lang/Exception"]).filter goodWord)
def wsL_count : List Cond := .codeWith yL_count cL_count 4 (some .int) [(0, 9, 12, 15)] :: ([.classLink RL 15 "java/lang/IllegalArgumentException", .methodLink RL 57 yX4_count, .instanceMethod yX4_count, .selects RX4 yX4_count yX4_count, .initialized RX4, .code yX4_count cX4_count 2 (some .int), .classLink RX4 52 "java/lang/IllegalArgumentException", .initialized "java/lang/IllegalArgumentException", .fieldLink RX4 10 "RestedArms" "now" "LRestedArms$Board;", .fieldLink RX4 140 "RestedArms$Board" "changes" "I", .fieldLink RX4 206 "RestedArms$Board" "last" "I", .fieldLink RX4 22 "RestedArms" "history" "LRestedArms$History;", .fieldLink RX4 175 "RestedArms$History" "count" "I", .methodLink RX4 117 yX0_allPulls, .instanceMethod yX0_allPulls, .selects RX0 yX0_allPulls yX0_allPulls, .initialized RX0, .code yX0_allPulls cX0_allPulls 3 (some .int), .fieldLink RX0 27 "RestedArms$Board" "pulls" "[I", .static yX4_at, .code yX4_at cX4_at 2 (some .int)] ++ wsX40 ++ wsX00 ++ wsX10 ++ (vx_atS RX4 56 "java/lang/IllegalArgumentException" ["java/lang/RuntimeException", "java/lang/Exception"]).filter goodWord)
def wsL_sum : List Cond := .codeWith yL_sum cL_sum 4 (some .int) [(0, 8, 11, 15)] :: ([.classLink RL 15 "java/lang/IllegalArgumentException", .methodLink RL 60 yX4_sum, .instanceMethod yX4_sum, .selects RX4 yX4_sum yX4_sum, .initialized RX4, .code yX4_sum cX4_sum 2 (some .long), .classLink RX4 52 "java/lang/IllegalArgumentException", .initialized "java/lang/IllegalArgumentException", .fieldLink RX4 10 "RestedArms" "now" "LRestedArms$Board;", .fieldLink RX4 211 "RestedArms$Board" "brought" "J", .fieldLink RX4 215 "RestedArms$Board" "weight" "J", .fieldLink RX4 218 "RestedArms$Board" "row" "J"] ++ wsX40 ++ wsX00 ++ (vx_atS RX4 56 "java/lang/IllegalArgumentException" ["java/lang/RuntimeException", "java/lang/Exception"]).filter goodWord)
def wsL_setting : List Cond := .codeWith yL_setting cL_setting 4 (some .int) [(0, 9, 12, 13)] :: ([.classLink RL 13 "java/lang/IndexOutOfBoundsException", .methodLink RL 64 yX4_setting, .instanceMethod yX4_setting, .selects RX4 yX4_setting yX4_setting, .initialized RX4, .code yX4_setting cX4_setting 2 (some .int), .fieldLink RX4 10 "RestedArms" "now" "LRestedArms$Board;", .fieldLink RX4 108 "RestedArms$Board" "settings" "[I", .methodLink RX4 97 yX4_needSetting, .static yX4_needSetting, .code yX4_needSetting cX4_needSetting 1 none, .classLink RX4 302 "java/lang/IndexOutOfBoundsException", .initialized "java/lang/IndexOutOfBoundsException", .methodLink RX4 48 yX4_isWithin, .static yX4_isWithin, .code yX4_isWithin cX4_isWithin 3 (some .boolean), .methodLink RX4 71 yX4_at, .static yX4_at, .code yX4_at cX4_at 2 (some .int)] ++ wsX40 ++ wsX00 ++ (vx_atS RX4 306 "java/lang/IndexOutOfBoundsException" ["java/lang/RuntimeException", "java/lang/Exception"]).filter goodWord)
def wsL_choice_r1 : List Cond := [Cond.classLink RL 15 "java/lang/IllegalArgumentException", Cond.methodLink RL 67 yX4_choice, Cond.instanceMethod yX4_choice, Cond.selects RX4 yX4_choice yX4_choice, Cond.initialized RX4, Cond.code yX4_choice cX4_choice 2 (some .int), Cond.fieldLink RX4 29 "RestedArms" "indices" "LRestedArms$Indices;", Cond.fieldLink RX4 10 "RestedArms" "now" "LRestedArms$Board;", Cond.methodLink RX4 129 yX4_needRule, Cond.static yX4_needRule, Cond.code yX4_needRule cX4_needRule 1 none, Cond.classLink RX4 52 "java/lang/IllegalArgumentException", Cond.initialized "java/lang/IllegalArgumentException", Cond.methodLink RX4 48 yX4_isWithin, Cond.static yX4_isWithin, Cond.code yX4_isWithin cX4_isWithin 3 (some .boolean), Cond.methodLink RX4 137 yX2_refresh, Cond.instanceMethod yX2_refresh, Cond.selects RX2 yX2_refresh yX2_refresh, Cond.initialized RX2, Cond.code yX2_refresh cX2_refresh 4 none, Cond.fieldLink RX2 15 "RestedArms$Indices" "fresh" "[Z", Cond.fieldLink RX2 9 "RestedArms$Indices" "table" "[J", Cond.static yX4_slotOf]
def wsL_choice_r2 : List Cond := [Cond.code yX4_slotOf cX4_slotOf 2 (some .int), Cond.methodLink RX2 29 yX2_find, Cond.instanceMethod yX2_find, Cond.selects RX2 yX2_find yX2_find, Cond.code yX2_find cX2_find 6 (some .long), Cond.fieldLink RX2 37 "RestedArms$Board" "settings" "[I", Cond.static yX4_at, Cond.code yX4_at cX4_at 2 (some .int), Cond.methodLink RX2 47 yX2_clearValues, Cond.instanceMethod yX2_clearValues, Cond.selects RX2 yX2_clearValues yX2_clearValues, Cond.code yX2_clearValues cX2_clearValues 2 none, Cond.fieldLink RX2 19 "RestedArms$Indices" "values" "[J", Cond.methodLink RX2 50 yX2_turn, Cond.instanceMethod yX2_turn, Cond.selects RX2 yX2_turn yX2_turn, Cond.code yX2_turn cX2_turn 18 none, Cond.fieldLink RX2 58 "RestedArms$Board" "chances" "[I", Cond.fieldLink RX2 61 "RestedArms$Board" "goods" "[I", Cond.fieldLink RX2 67 "RestedArms$Board" "bads" "[I", Cond.constantLong RX2 70 (8), Cond.constantLong RX2 78 (100), Cond.fieldLink RX2 22 "RestedArms$Indices" "own" "[J", Cond.constantLong RX2 80 (1000)]
def wsL_choice_r3 : List Cond := [Cond.fieldLink RX2 82 "RestedArms$Board" "gifts" "[I", Cond.methodLink RX2 85 Lib.MathLoose.max_long.x, Cond.static Lib.MathLoose.max_long.x, Cond.initialized "java/lang/Math", Cond.code Lib.MathLoose.max_long.x Lib.MathLoose.max_long.code 4 (some .long), Cond.static yX4_at_, Cond.code yX4_at_ cX4_at_ 2 (some .long), Cond.methodLink RX2 72 yJ9_floorDiv_f86c9, Cond.static yJ9_floorDiv_f86c9, Cond.initialized RJ9, Cond.code yJ9_floorDiv_f86c9 cJ9_floorDiv_f86c9 6 (some .long), Cond.static yX4_store_, Cond.code yX4_store_ cX4_store_ 4 none, Cond.methodLink RX2 54 yX2_indexNow, Cond.instanceMethod yX2_indexNow, Cond.selects RX2 yX2_indexNow yX2_indexNow, Cond.code yX2_indexNow cX2_indexNow 3 (some .long), Cond.methodLink RX4 223 yX4_chosenBy, Cond.instanceMethod yX4_chosenBy, Cond.selects RX4 yX4_chosenBy yX4_chosenBy, Cond.code yX4_chosenBy cX4_chosenBy 3 (some .int), Cond.fieldLink RX4 206 "RestedArms$Board" "last" "I", Cond.methodLink RX4 234 yX4_scoreAll, Cond.instanceMethod yX4_scoreAll]
def wsL_choice_r4 : List Cond := [Cond.selects RX4 yX4_scoreAll yX4_scoreAll, Cond.code yX4_scoreAll cX4_scoreAll 7 none, Cond.fieldLink RX4 94 "RestedArms$Board" "places" "[I", Cond.fieldLink RX4 188 "RestedArms$Indices" "table" "[J", Cond.fieldLink RX4 67 "RestedArms$Board" "gifts" "[I", Cond.fieldLink RX4 40 "RestedArms" "scores" "[J", Cond.methodLink RX4 71 yX4_at, Cond.methodLink RX4 63 yX4_slotOf, Cond.methodLink RX4 191 yX4_at_, Cond.methodLink RX4 325 yX0_costOf, Cond.instanceMethod yX0_costOf, Cond.selects RX0 yX0_costOf yX0_costOf, Cond.initialized RX0, Cond.code yX0_costOf cX0_costOf 5 (some .long), Cond.fieldLink RX0 30 "RestedArms$Board" "settings" "[I", Cond.constantLong RX0 70 (10), Cond.methodLink RX0 66 yX0_wouldChange, Cond.instanceMethod yX0_wouldChange, Cond.selects RX0 yX0_wouldChange yX0_wouldChange, Cond.code yX0_wouldChange cX0_wouldChange 2 (some .boolean), Cond.fieldLink RX0 33 "RestedArms$Board" "last" "I", Cond.methodLink RX4 328 yX4_store_, Cond.methodLink RX4 322 yX4_greatestScore, Cond.instanceMethod yX4_greatestScore]
def wsL_choice_r5 : List Cond := [Cond.selects RX4 yX4_greatestScore yX4_greatestScore, Cond.code yX4_greatestScore cX4_greatestScore 4 (some .int)]
def wsL_choice : List Cond := .codeWith yL_choice cL_choice 4 (some .int) [(0, 9, 12, 15)] :: ((wsL_choice_r1 ++ (wsL_choice_r2 ++ (wsL_choice_r3 ++ (wsL_choice_r4 ++ wsL_choice_r5)))) ++ wsX40 ++ wsX20 ++ wsX00 ++ (vx_atS RX4 56 "java/lang/IllegalArgumentException" ["java/lang/RuntimeException", "java/lang/Exception"]).filter goodWord)
def wsL_ifPlayed_r1 : List Cond := [Cond.classLink RL 15 "java/lang/IllegalArgumentException", Cond.methodLink RL 70 yX4_ifPlayed, Cond.instanceMethod yX4_ifPlayed, Cond.selects RX4 yX4_ifPlayed yX4_ifPlayed, Cond.initialized RX4, Cond.code yX4_ifPlayed cX4_ifPlayed 3 (some .long), Cond.methodLink RX4 129 yX4_needRule, Cond.static yX4_needRule, Cond.code yX4_needRule cX4_needRule 1 none, Cond.classLink RX4 52 "java/lang/IllegalArgumentException", Cond.initialized "java/lang/IllegalArgumentException", Cond.methodLink RX4 48 yX4_isWithin, Cond.static yX4_isWithin, Cond.code yX4_isWithin cX4_isWithin 3 (some .boolean), Cond.methodLink RX4 132 yX4_needPulls, Cond.static yX4_needPulls, Cond.code yX4_needPulls cX4_needPulls 1 none, Cond.methodLink RX4 227 yX4_gain, Cond.instanceMethod yX4_gain, Cond.selects RX4 yX4_gain yX4_gain, Cond.code yX4_gain cX4_gain 3 (some .long), Cond.fieldLink RX4 29 "RestedArms" "indices" "LRestedArms$Indices;", Cond.fieldLink RX4 10 "RestedArms" "now" "LRestedArms$Board;", Cond.fieldLink RX4 16 "RestedArms" "trial" "LRestedArms$Board;"]
def wsL_ifPlayed_r2 : List Cond := [Cond.fieldLink RX4 211 "RestedArms$Board" "brought" "J", Cond.methodLink RX4 137 yX2_refresh, Cond.instanceMethod yX2_refresh, Cond.selects RX2 yX2_refresh yX2_refresh, Cond.initialized RX2, Cond.code yX2_refresh cX2_refresh 4 none, Cond.fieldLink RX2 15 "RestedArms$Indices" "fresh" "[Z", Cond.fieldLink RX2 9 "RestedArms$Indices" "table" "[J", Cond.static yX4_slotOf, Cond.code yX4_slotOf cX4_slotOf 2 (some .int), Cond.methodLink RX2 29 yX2_find, Cond.instanceMethod yX2_find, Cond.selects RX2 yX2_find yX2_find, Cond.code yX2_find cX2_find 6 (some .long), Cond.fieldLink RX2 37 "RestedArms$Board" "settings" "[I", Cond.static yX4_at, Cond.code yX4_at cX4_at 2 (some .int), Cond.methodLink RX2 47 yX2_clearValues, Cond.instanceMethod yX2_clearValues, Cond.selects RX2 yX2_clearValues yX2_clearValues, Cond.code yX2_clearValues cX2_clearValues 2 none, Cond.fieldLink RX2 19 "RestedArms$Indices" "values" "[J", Cond.methodLink RX2 50 yX2_turn, Cond.instanceMethod yX2_turn]
def wsL_ifPlayed_r3 : List Cond := [Cond.selects RX2 yX2_turn yX2_turn, Cond.code yX2_turn cX2_turn 18 none, Cond.fieldLink RX2 58 "RestedArms$Board" "chances" "[I", Cond.fieldLink RX2 61 "RestedArms$Board" "goods" "[I", Cond.fieldLink RX2 67 "RestedArms$Board" "bads" "[I", Cond.constantLong RX2 70 (8), Cond.constantLong RX2 78 (100), Cond.fieldLink RX2 22 "RestedArms$Indices" "own" "[J", Cond.constantLong RX2 80 (1000), Cond.fieldLink RX2 82 "RestedArms$Board" "gifts" "[I", Cond.methodLink RX2 85 Lib.MathLoose.max_long.x, Cond.static Lib.MathLoose.max_long.x, Cond.initialized "java/lang/Math", Cond.code Lib.MathLoose.max_long.x Lib.MathLoose.max_long.code 4 (some .long), Cond.static yX4_at_, Cond.code yX4_at_ cX4_at_ 2 (some .long), Cond.methodLink RX2 72 yJ9_floorDiv_f86c9, Cond.static yJ9_floorDiv_f86c9, Cond.initialized RJ9, Cond.code yJ9_floorDiv_f86c9 cJ9_floorDiv_f86c9 6 (some .long), Cond.static yX4_store_, Cond.code yX4_store_ cX4_store_ 4 none, Cond.methodLink RX2 54 yX2_indexNow, Cond.instanceMethod yX2_indexNow]
def wsL_ifPlayed_r4 : List Cond := [Cond.selects RX2 yX2_indexNow yX2_indexNow, Cond.code yX2_indexNow cX2_indexNow 3 (some .long), Cond.methodLink RX4 231 yX0_copy, Cond.instanceMethod yX0_copy, Cond.selects RX0 yX0_copy yX0_copy, Cond.initialized RX0, Cond.code yX0_copy cX0_copy 2 none, Cond.fieldLink RX0 9 "RestedArms$Board" "gifts" "[I", Cond.methodLink RX0 46 arraycopyName, Cond.native arraycopyName, Cond.static arraycopyName, Cond.initialized "java/lang/System", Cond.fieldLink RX0 15 "RestedArms$Board" "goods" "[I", Cond.fieldLink RX0 18 "RestedArms$Board" "bads" "[I", Cond.fieldLink RX0 21 "RestedArms$Board" "chances" "[I", Cond.fieldLink RX0 24 "RestedArms$Board" "places" "[I", Cond.fieldLink RX0 27 "RestedArms$Board" "pulls" "[I", Cond.fieldLink RX0 30 "RestedArms$Board" "settings" "[I", Cond.fieldLink RX0 52 "RestedArms$Board" "changes" "I", Cond.fieldLink RX0 33 "RestedArms$Board" "last" "I", Cond.fieldLink RX0 55 "RestedArms$Board" "brought" "J", Cond.fieldLink RX0 39 "RestedArms$Board" "weight" "J", Cond.fieldLink RX0 43 "RestedArms$Board" "row" "J", Cond.methodLink RX4 144 yX4_playOn]
def wsL_ifPlayed_r5 : List Cond := [Cond.instanceMethod yX4_playOn, Cond.selects RX4 yX4_playOn yX4_playOn, Cond.code yX4_playOn cX4_playOn 5 none, Cond.methodLink RX4 223 yX4_chosenBy, Cond.instanceMethod yX4_chosenBy, Cond.selects RX4 yX4_chosenBy yX4_chosenBy, Cond.code yX4_chosenBy cX4_chosenBy 3 (some .int), Cond.fieldLink RX4 206 "RestedArms$Board" "last" "I", Cond.methodLink RX4 234 yX4_scoreAll, Cond.instanceMethod yX4_scoreAll, Cond.selects RX4 yX4_scoreAll yX4_scoreAll, Cond.code yX4_scoreAll cX4_scoreAll 7 none, Cond.fieldLink RX4 94 "RestedArms$Board" "places" "[I", Cond.fieldLink RX4 188 "RestedArms$Indices" "table" "[J", Cond.fieldLink RX4 67 "RestedArms$Board" "gifts" "[I", Cond.fieldLink RX4 40 "RestedArms" "scores" "[J", Cond.methodLink RX4 71 yX4_at, Cond.methodLink RX4 63 yX4_slotOf, Cond.methodLink RX4 191 yX4_at_, Cond.methodLink RX4 325 yX0_costOf, Cond.instanceMethod yX0_costOf, Cond.selects RX0 yX0_costOf yX0_costOf, Cond.code yX0_costOf cX0_costOf 5 (some .long), Cond.constantLong RX0 70 (10)]
def wsL_ifPlayed_r6 : List Cond := [Cond.methodLink RX0 66 yX0_wouldChange, Cond.instanceMethod yX0_wouldChange, Cond.selects RX0 yX0_wouldChange yX0_wouldChange, Cond.code yX0_wouldChange cX0_wouldChange 2 (some .boolean), Cond.methodLink RX4 328 yX4_store_, Cond.methodLink RX4 322 yX4_greatestScore, Cond.instanceMethod yX4_greatestScore, Cond.selects RX4 yX4_greatestScore yX4_greatestScore, Cond.code yX4_greatestScore cX4_greatestScore 4 (some .int), Cond.methodLink RX4 126 yX0_pullOnce, Cond.instanceMethod yX0_pullOnce, Cond.selects RX0 yX0_pullOnce yX0_pullOnce, Cond.code yX0_pullOnce cX0_pullOnce 5 none, Cond.constantLong RX0 72 (1000), Cond.constantLong RX0 37 (1000000), Cond.constantLong RX0 84 (100), Cond.methodLink RX0 78 yJ9_floorDiv_f86c9, Cond.static yX4_store, Cond.code yX4_store cX4_store 3 none, Cond.methodLink RX0 86 yX0_goOn, Cond.instanceMethod yX0_goOn, Cond.selects RX0 yX0_goOn yX0_goOn, Cond.code yX0_goOn cX0_goOn 4 none, Cond.constantLong RX0 90 (6364136223846793005)]
def wsL_ifPlayed_r7 : List Cond := [Cond.constantLong RX0 92 (1442695040888963407)]
def wsL_ifPlayed : List Cond := .codeWith yL_ifPlayed cL_ifPlayed 5 (some .int) [(0, 9, 12, 15)] :: ((wsL_ifPlayed_r1 ++ (wsL_ifPlayed_r2 ++ (wsL_ifPlayed_r3 ++ (wsL_ifPlayed_r4 ++ (wsL_ifPlayed_r5 ++ (wsL_ifPlayed_r6 ++ wsL_ifPlayed_r7)))))) ++ wsX40 ++ wsX00 ++ wsX20 ++ (vx_atS RX4 56 "java/lang/IllegalArgumentException" ["java/lang/RuntimeException", "java/lang/Exception"]).filter goodWord)
def wsL_bestRule_r1 : List Cond := [Cond.classLink RL 15 "java/lang/IllegalArgumentException", Cond.methodLink RL 73 yX4_bestRule, Cond.instanceMethod yX4_bestRule, Cond.selects RX4 yX4_bestRule yX4_bestRule, Cond.initialized RX4, Cond.code yX4_bestRule cX4_bestRule 8 (some .int), Cond.methodLink RX4 132 yX4_needPulls, Cond.static yX4_needPulls, Cond.code yX4_needPulls cX4_needPulls 1 none, Cond.classLink RX4 52 "java/lang/IllegalArgumentException", Cond.initialized "java/lang/IllegalArgumentException", Cond.methodLink RX4 48 yX4_isWithin, Cond.static yX4_isWithin, Cond.code yX4_isWithin cX4_isWithin 3 (some .boolean), Cond.methodLink RX4 227 yX4_gain, Cond.instanceMethod yX4_gain, Cond.selects RX4 yX4_gain yX4_gain, Cond.code yX4_gain cX4_gain 3 (some .long), Cond.fieldLink RX4 29 "RestedArms" "indices" "LRestedArms$Indices;", Cond.fieldLink RX4 10 "RestedArms" "now" "LRestedArms$Board;", Cond.fieldLink RX4 16 "RestedArms" "trial" "LRestedArms$Board;", Cond.fieldLink RX4 211 "RestedArms$Board" "brought" "J", Cond.methodLink RX4 137 yX2_refresh, Cond.instanceMethod yX2_refresh]
def wsL_bestRule_r2 : List Cond := [Cond.selects RX2 yX2_refresh yX2_refresh, Cond.initialized RX2, Cond.code yX2_refresh cX2_refresh 4 none, Cond.fieldLink RX2 15 "RestedArms$Indices" "fresh" "[Z", Cond.fieldLink RX2 9 "RestedArms$Indices" "table" "[J", Cond.static yX4_slotOf, Cond.code yX4_slotOf cX4_slotOf 2 (some .int), Cond.methodLink RX2 29 yX2_find, Cond.instanceMethod yX2_find, Cond.selects RX2 yX2_find yX2_find, Cond.code yX2_find cX2_find 6 (some .long), Cond.fieldLink RX2 37 "RestedArms$Board" "settings" "[I", Cond.static yX4_at, Cond.code yX4_at cX4_at 2 (some .int), Cond.methodLink RX2 47 yX2_clearValues, Cond.instanceMethod yX2_clearValues, Cond.selects RX2 yX2_clearValues yX2_clearValues, Cond.code yX2_clearValues cX2_clearValues 2 none, Cond.fieldLink RX2 19 "RestedArms$Indices" "values" "[J", Cond.methodLink RX2 50 yX2_turn, Cond.instanceMethod yX2_turn, Cond.selects RX2 yX2_turn yX2_turn, Cond.code yX2_turn cX2_turn 18 none, Cond.fieldLink RX2 58 "RestedArms$Board" "chances" "[I"]
def wsL_bestRule_r3 : List Cond := [Cond.fieldLink RX2 61 "RestedArms$Board" "goods" "[I", Cond.fieldLink RX2 67 "RestedArms$Board" "bads" "[I", Cond.constantLong RX2 70 (8), Cond.constantLong RX2 78 (100), Cond.fieldLink RX2 22 "RestedArms$Indices" "own" "[J", Cond.constantLong RX2 80 (1000), Cond.fieldLink RX2 82 "RestedArms$Board" "gifts" "[I", Cond.methodLink RX2 85 Lib.MathLoose.max_long.x, Cond.static Lib.MathLoose.max_long.x, Cond.initialized "java/lang/Math", Cond.code Lib.MathLoose.max_long.x Lib.MathLoose.max_long.code 4 (some .long), Cond.static yX4_at_, Cond.code yX4_at_ cX4_at_ 2 (some .long), Cond.methodLink RX2 72 yJ9_floorDiv_f86c9, Cond.static yJ9_floorDiv_f86c9, Cond.initialized RJ9, Cond.code yJ9_floorDiv_f86c9 cJ9_floorDiv_f86c9 6 (some .long), Cond.static yX4_store_, Cond.code yX4_store_ cX4_store_ 4 none, Cond.methodLink RX2 54 yX2_indexNow, Cond.instanceMethod yX2_indexNow, Cond.selects RX2 yX2_indexNow yX2_indexNow, Cond.code yX2_indexNow cX2_indexNow 3 (some .long), Cond.methodLink RX4 231 yX0_copy]
def wsL_bestRule_r4 : List Cond := [Cond.instanceMethod yX0_copy, Cond.selects RX0 yX0_copy yX0_copy, Cond.initialized RX0, Cond.code yX0_copy cX0_copy 2 none, Cond.fieldLink RX0 9 "RestedArms$Board" "gifts" "[I", Cond.methodLink RX0 46 arraycopyName, Cond.native arraycopyName, Cond.static arraycopyName, Cond.initialized "java/lang/System", Cond.fieldLink RX0 15 "RestedArms$Board" "goods" "[I", Cond.fieldLink RX0 18 "RestedArms$Board" "bads" "[I", Cond.fieldLink RX0 21 "RestedArms$Board" "chances" "[I", Cond.fieldLink RX0 24 "RestedArms$Board" "places" "[I", Cond.fieldLink RX0 27 "RestedArms$Board" "pulls" "[I", Cond.fieldLink RX0 30 "RestedArms$Board" "settings" "[I", Cond.fieldLink RX0 52 "RestedArms$Board" "changes" "I", Cond.fieldLink RX0 33 "RestedArms$Board" "last" "I", Cond.fieldLink RX0 55 "RestedArms$Board" "brought" "J", Cond.fieldLink RX0 39 "RestedArms$Board" "weight" "J", Cond.fieldLink RX0 43 "RestedArms$Board" "row" "J", Cond.methodLink RX4 144 yX4_playOn, Cond.instanceMethod yX4_playOn, Cond.selects RX4 yX4_playOn yX4_playOn, Cond.code yX4_playOn cX4_playOn 5 none]
def wsL_bestRule_r5 : List Cond := [Cond.methodLink RX4 223 yX4_chosenBy, Cond.instanceMethod yX4_chosenBy, Cond.selects RX4 yX4_chosenBy yX4_chosenBy, Cond.code yX4_chosenBy cX4_chosenBy 3 (some .int), Cond.fieldLink RX4 206 "RestedArms$Board" "last" "I", Cond.methodLink RX4 234 yX4_scoreAll, Cond.instanceMethod yX4_scoreAll, Cond.selects RX4 yX4_scoreAll yX4_scoreAll, Cond.code yX4_scoreAll cX4_scoreAll 7 none, Cond.fieldLink RX4 94 "RestedArms$Board" "places" "[I", Cond.fieldLink RX4 188 "RestedArms$Indices" "table" "[J", Cond.fieldLink RX4 67 "RestedArms$Board" "gifts" "[I", Cond.fieldLink RX4 40 "RestedArms" "scores" "[J", Cond.methodLink RX4 71 yX4_at, Cond.methodLink RX4 63 yX4_slotOf, Cond.methodLink RX4 191 yX4_at_, Cond.methodLink RX4 325 yX0_costOf, Cond.instanceMethod yX0_costOf, Cond.selects RX0 yX0_costOf yX0_costOf, Cond.code yX0_costOf cX0_costOf 5 (some .long), Cond.constantLong RX0 70 (10), Cond.methodLink RX0 66 yX0_wouldChange, Cond.instanceMethod yX0_wouldChange, Cond.selects RX0 yX0_wouldChange yX0_wouldChange]
def wsL_bestRule_r6 : List Cond := [Cond.code yX0_wouldChange cX0_wouldChange 2 (some .boolean), Cond.methodLink RX4 328 yX4_store_, Cond.methodLink RX4 322 yX4_greatestScore, Cond.instanceMethod yX4_greatestScore, Cond.selects RX4 yX4_greatestScore yX4_greatestScore, Cond.code yX4_greatestScore cX4_greatestScore 4 (some .int), Cond.methodLink RX4 126 yX0_pullOnce, Cond.instanceMethod yX0_pullOnce, Cond.selects RX0 yX0_pullOnce yX0_pullOnce, Cond.code yX0_pullOnce cX0_pullOnce 5 none, Cond.constantLong RX0 72 (1000), Cond.constantLong RX0 37 (1000000), Cond.constantLong RX0 84 (100), Cond.methodLink RX0 78 yJ9_floorDiv_f86c9, Cond.static yX4_store, Cond.code yX4_store cX4_store 3 none, Cond.methodLink RX0 86 yX0_goOn, Cond.instanceMethod yX0_goOn, Cond.selects RX0 yX0_goOn yX0_goOn, Cond.code yX0_goOn cX0_goOn 4 none, Cond.constantLong RX0 90 (6364136223846793005), Cond.constantLong RX0 92 (1442695040888963407)]
def wsL_bestRule : List Cond := .codeWith yL_bestRule cL_bestRule 4 (some .int) [(0, 9, 12, 15)] :: ((wsL_bestRule_r1 ++ (wsL_bestRule_r2 ++ (wsL_bestRule_r3 ++ (wsL_bestRule_r4 ++ (wsL_bestRule_r5 ++ wsL_bestRule_r6))))) ++ wsX40 ++ wsX00 ++ wsX20 ++ (vx_atS RX4 56 "java/lang/IllegalArgumentException" ["java/lang/RuntimeException", "java/lang/Exception"]).filter goodWord)
def wsL_giftFor_r1 : List Cond := [Cond.classLink RL 13 "java/lang/IndexOutOfBoundsException", Cond.methodLink RL 76 yX4_giftFor, Cond.instanceMethod yX4_giftFor, Cond.selects RX4 yX4_giftFor yX4_giftFor, Cond.initialized RX4, Cond.code yX4_giftFor cX4_giftFor 7 (some .int), Cond.fieldLink RX4 29 "RestedArms" "indices" "LRestedArms$Indices;", Cond.fieldLink RX4 10 "RestedArms" "now" "LRestedArms$Board;", Cond.fieldLink RX4 16 "RestedArms" "trial" "LRestedArms$Board;", Cond.methodLink RX4 44 yX4_needState, Cond.static yX4_needState, Cond.code yX4_needState cX4_needState 2 none, Cond.classLink RX4 302 "java/lang/IndexOutOfBoundsException", Cond.initialized "java/lang/IndexOutOfBoundsException", Cond.methodLink RX4 48 yX4_isWithin, Cond.static yX4_isWithin, Cond.code yX4_isWithin cX4_isWithin 3 (some .boolean), Cond.methodLink RX4 137 yX2_refresh, Cond.instanceMethod yX2_refresh, Cond.selects RX2 yX2_refresh yX2_refresh, Cond.initialized RX2, Cond.code yX2_refresh cX2_refresh 4 none, Cond.fieldLink RX2 15 "RestedArms$Indices" "fresh" "[Z", Cond.fieldLink RX2 9 "RestedArms$Indices" "table" "[J"]
def wsL_giftFor_r2 : List Cond := [Cond.static yX4_slotOf, Cond.code yX4_slotOf cX4_slotOf 2 (some .int), Cond.methodLink RX2 29 yX2_find, Cond.instanceMethod yX2_find, Cond.selects RX2 yX2_find yX2_find, Cond.code yX2_find cX2_find 6 (some .long), Cond.fieldLink RX2 37 "RestedArms$Board" "settings" "[I", Cond.static yX4_at, Cond.code yX4_at cX4_at 2 (some .int), Cond.methodLink RX2 47 yX2_clearValues, Cond.instanceMethod yX2_clearValues, Cond.selects RX2 yX2_clearValues yX2_clearValues, Cond.code yX2_clearValues cX2_clearValues 2 none, Cond.fieldLink RX2 19 "RestedArms$Indices" "values" "[J", Cond.methodLink RX2 50 yX2_turn, Cond.instanceMethod yX2_turn, Cond.selects RX2 yX2_turn yX2_turn, Cond.code yX2_turn cX2_turn 18 none, Cond.fieldLink RX2 58 "RestedArms$Board" "chances" "[I", Cond.fieldLink RX2 61 "RestedArms$Board" "goods" "[I", Cond.fieldLink RX2 67 "RestedArms$Board" "bads" "[I", Cond.constantLong RX2 70 (8), Cond.constantLong RX2 78 (100), Cond.fieldLink RX2 22 "RestedArms$Indices" "own" "[J"]
def wsL_giftFor_r3 : List Cond := [Cond.constantLong RX2 80 (1000), Cond.fieldLink RX2 82 "RestedArms$Board" "gifts" "[I", Cond.methodLink RX2 85 Lib.MathLoose.max_long.x, Cond.static Lib.MathLoose.max_long.x, Cond.initialized "java/lang/Math", Cond.code Lib.MathLoose.max_long.x Lib.MathLoose.max_long.code 4 (some .long), Cond.static yX4_at_, Cond.code yX4_at_ cX4_at_ 2 (some .long), Cond.methodLink RX2 72 yJ9_floorDiv_f86c9, Cond.static yJ9_floorDiv_f86c9, Cond.initialized RJ9, Cond.code yJ9_floorDiv_f86c9 cJ9_floorDiv_f86c9 6 (some .long), Cond.static yX4_store_, Cond.code yX4_store_ cX4_store_ 4 none, Cond.methodLink RX2 54 yX2_indexNow, Cond.instanceMethod yX2_indexNow, Cond.selects RX2 yX2_indexNow yX2_indexNow, Cond.code yX2_indexNow cX2_indexNow 3 (some .long), Cond.methodLink RX4 231 yX0_copy, Cond.instanceMethod yX0_copy, Cond.selects RX0 yX0_copy yX0_copy, Cond.initialized RX0, Cond.code yX0_copy cX0_copy 2 none, Cond.fieldLink RX0 9 "RestedArms$Board" "gifts" "[I"]
def wsL_giftFor_r4 : List Cond := [Cond.methodLink RX0 46 arraycopyName, Cond.native arraycopyName, Cond.static arraycopyName, Cond.initialized "java/lang/System", Cond.fieldLink RX0 15 "RestedArms$Board" "goods" "[I", Cond.fieldLink RX0 18 "RestedArms$Board" "bads" "[I", Cond.fieldLink RX0 21 "RestedArms$Board" "chances" "[I", Cond.fieldLink RX0 24 "RestedArms$Board" "places" "[I", Cond.fieldLink RX0 27 "RestedArms$Board" "pulls" "[I", Cond.fieldLink RX0 30 "RestedArms$Board" "settings" "[I", Cond.fieldLink RX0 52 "RestedArms$Board" "changes" "I", Cond.fieldLink RX0 33 "RestedArms$Board" "last" "I", Cond.fieldLink RX0 55 "RestedArms$Board" "brought" "J", Cond.fieldLink RX0 39 "RestedArms$Board" "weight" "J", Cond.fieldLink RX0 43 "RestedArms$Board" "row" "J", Cond.methodLink RX4 234 yX4_scoreAll, Cond.instanceMethod yX4_scoreAll, Cond.selects RX4 yX4_scoreAll yX4_scoreAll, Cond.code yX4_scoreAll cX4_scoreAll 7 none, Cond.fieldLink RX4 94 "RestedArms$Board" "places" "[I", Cond.fieldLink RX4 188 "RestedArms$Indices" "table" "[J", Cond.fieldLink RX4 67 "RestedArms$Board" "gifts" "[I", Cond.fieldLink RX4 40 "RestedArms" "scores" "[J", Cond.methodLink RX4 71 yX4_at]
def wsL_giftFor_r5 : List Cond := [Cond.methodLink RX4 63 yX4_slotOf, Cond.methodLink RX4 191 yX4_at_, Cond.methodLink RX4 325 yX0_costOf, Cond.instanceMethod yX0_costOf, Cond.selects RX0 yX0_costOf yX0_costOf, Cond.code yX0_costOf cX0_costOf 5 (some .long), Cond.constantLong RX0 70 (10), Cond.methodLink RX0 66 yX0_wouldChange, Cond.instanceMethod yX0_wouldChange, Cond.selects RX0 yX0_wouldChange yX0_wouldChange, Cond.code yX0_wouldChange cX0_wouldChange 2 (some .boolean), Cond.methodLink RX4 328 yX4_store_, Cond.methodLink RX4 238 yX4_wouldChoose, Cond.instanceMethod yX4_wouldChoose, Cond.selects RX4 yX4_wouldChoose yX4_wouldChoose, Cond.code yX4_wouldChoose cX4_wouldChoose 6 (some .boolean), Cond.fieldLink RX4 206 "RestedArms$Board" "last" "I", Cond.methodLink RX4 75 yX4_store, Cond.static yX4_store, Cond.code yX4_store cX4_store 3 none, Cond.methodLink RX4 331 yX2_find, Cond.methodLink RX4 322 yX4_greatestScore, Cond.instanceMethod yX4_greatestScore, Cond.selects RX4 yX4_greatestScore yX4_greatestScore]
def wsL_giftFor_r6 : List Cond := [Cond.code yX4_greatestScore cX4_greatestScore 4 (some .int)]
def wsL_giftFor : List Cond := .codeWith yL_giftFor cL_giftFor 5 (some .int) [(0, 10, 13, 13)] :: ((wsL_giftFor_r1 ++ (wsL_giftFor_r2 ++ (wsL_giftFor_r3 ++ (wsL_giftFor_r4 ++ (wsL_giftFor_r5 ++ wsL_giftFor_r6))))) ++ wsX40 ++ wsX20 ++ wsX00 ++ (vx_atS RX4 306 "java/lang/IndexOutOfBoundsException" ["java/lang/RuntimeException", "java/lang/Exception"]).filter goodWord)
def wsL_law0_r1 : List Cond := [Cond.classLink RL 8 RX4, Cond.instantiable RX4 6, Cond.initialized RX4, Cond.classLink RL 80 RX5, Cond.instantiable RX5 13, Cond.initialized RX5, Cond.arrayClass .long, Cond.constantLong RL 110 (4294967295), Cond.methodLink RL 79 yX4_init, Cond.instanceMethod yX4_init, Cond.code yX4_init cX4_init 1 none, Cond.methodLink RX4 1 objectInit, Cond.instanceMethod objectInit, Cond.code objectInit ⟨#[0xb1]⟩ 1 none, Cond.classLink RX4 7 RX0, Cond.instantiable RX0 12, Cond.initialized RX0, Cond.fieldLink RX4 10 "RestedArms" "now" "LRestedArms$Board;", Cond.fieldLink RX4 16 "RestedArms" "trial" "LRestedArms$Board;", Cond.classLink RX4 19 RX1, Cond.instantiable RX1 2, Cond.initialized RX1, Cond.fieldLink RX4 22 "RestedArms" "history" "LRestedArms$History;", Cond.classLink RX4 26 RX2]
def wsL_law0_r2 : List Cond := [Cond.instantiable RX2 4, Cond.initialized RX2, Cond.fieldLink RX4 29 "RestedArms" "indices" "LRestedArms$Indices;", Cond.classLink RX4 33 RX3, Cond.instantiable RX3 2, Cond.initialized RX3, Cond.fieldLink RX4 36 "RestedArms" "text" "LRestedArms$Text;", Cond.fieldLink RX4 40 "RestedArms" "scores" "[J", Cond.methodLink RX4 9 yX0_init, Cond.instanceMethod yX0_init, Cond.code yX0_init cX0_init 2 none, Cond.methodLink RX0 3 objectInit, Cond.arrayClass .int, Cond.fieldLink RX0 9 "RestedArms$Board" "gifts" "[I", Cond.fieldLink RX0 15 "RestedArms$Board" "goods" "[I", Cond.fieldLink RX0 18 "RestedArms$Board" "bads" "[I", Cond.fieldLink RX0 21 "RestedArms$Board" "chances" "[I", Cond.fieldLink RX0 24 "RestedArms$Board" "places" "[I", Cond.fieldLink RX0 27 "RestedArms$Board" "pulls" "[I", Cond.fieldLink RX0 30 "RestedArms$Board" "settings" "[I", Cond.fieldLink RX0 33 "RestedArms$Board" "last" "I", Cond.constantLong RX0 37 (1000000), Cond.fieldLink RX0 39 "RestedArms$Board" "weight" "J", Cond.fieldLink RX0 43 "RestedArms$Board" "row" "J"]
def wsL_law0_r3 : List Cond := [Cond.methodLink RX4 21 yX1_init, Cond.instanceMethod yX1_init, Cond.code yX1_init cX1_init 2 none, Cond.methodLink RX1 3 objectInit, Cond.classLink RX1 9 RX0, Cond.fieldLink RX1 11 "RestedArms$History" "saved" "[LRestedArms$Board;", Cond.methodLink RX1 17 yX0_init, Cond.methodLink RX4 28 yX2_init, Cond.instanceMethod yX2_init, Cond.code yX2_init cX2_init 1 none, Cond.methodLink RX2 3 objectInit, Cond.fieldLink RX2 9 "RestedArms$Indices" "table" "[J", Cond.arrayClass .boolean, Cond.fieldLink RX2 15 "RestedArms$Indices" "fresh" "[Z", Cond.fieldLink RX2 19 "RestedArms$Indices" "values" "[J", Cond.fieldLink RX2 22 "RestedArms$Indices" "own" "[J", Cond.methodLink RX4 35 yX3_init, Cond.instanceMethod yX3_init, Cond.code yX3_init cX3_init 1 none, Cond.methodLink RX3 3 objectInit, Cond.fieldLink RX3 9 "RestedArms$Text" "codes" "[I", Cond.methodLink RL 82 yX5_init, Cond.instanceMethod yX5_init, Cond.code yX5_init cX5_init 2 none]
def wsL_law0_r4 : List Cond := [Cond.methodLink RX5 1 objectInit, Cond.fieldLink RX5 7 "RestedArmsModel" "now" "[J", Cond.fieldLink RX5 13 "RestedArmsModel" "then" "[J", Cond.fieldLink RX5 16 "RestedArmsModel" "past" "[J", Cond.fieldLink RX5 19 "RestedArmsModel" "text" "[I", Cond.fieldLink RX5 23 "RestedArmsModel" "told" "[I", Cond.fieldLink RX5 26 "RestedArmsModel" "values" "[J", Cond.fieldLink RX5 29 "RestedArmsModel" "owns" "[J", Cond.constantLong RX5 32 (90), Cond.constantLong RX5 34 (20), Cond.constantLong RX5 36 (-1), Cond.constantLong RX5 38 (1000000), Cond.constantLong RX5 40 (4), Cond.methodLink RL 83 yL_gift, Cond.static yL_gift, Cond.initialized RL, Cond.codeWith yL_gift cL_gift 6 (some .int) [(0, 12, 15, 13), (0, 12, 19, 15)], Cond.classLink RL 13 "java/lang/IndexOutOfBoundsException", Cond.classLink RL 15 "java/lang/IllegalArgumentException", Cond.methodLink RL 7 yX4_gift, Cond.instanceMethod yX4_gift, Cond.selects RX4 yX4_gift yX4_gift, Cond.code yX4_gift cX4_gift 6 (some .int), Cond.classLink RX4 52 "java/lang/IllegalArgumentException"]
def wsL_law0_r5 : List Cond := [Cond.initialized "java/lang/IllegalArgumentException", Cond.fieldLink RX4 67 "RestedArms$Board" "gifts" "[I", Cond.methodLink RX4 44 yX4_needState, Cond.static yX4_needState, Cond.code yX4_needState cX4_needState 2 none, Cond.classLink RX4 302 "java/lang/IndexOutOfBoundsException", Cond.initialized "java/lang/IndexOutOfBoundsException", Cond.methodLink RX4 48 yX4_isWithin, Cond.static yX4_isWithin, Cond.code yX4_isWithin cX4_isWithin 3 (some .boolean), Cond.methodLink RX4 59 yX1_keep, Cond.instanceMethod yX1_keep, Cond.selects RX1 yX1_keep yX1_keep, Cond.code yX1_keep cX1_keep 3 none, Cond.fieldLink RX1 18 "RestedArms$History" "count" "I", Cond.methodLink RX1 22 yX1_moveOldestBehind, Cond.instanceMethod yX1_moveOldestBehind, Cond.selects RX1 yX1_moveOldestBehind yX1_moveOldestBehind, Cond.code yX1_moveOldestBehind cX1_moveOldestBehind 3 none, Cond.methodLink RX1 25 yX1_boardAt, Cond.instanceMethod yX1_boardAt, Cond.selects RX1 yX1_boardAt yX1_boardAt, Cond.code yX1_boardAt cX1_boardAt 2 (some (.object "RestedArms$Board")), Cond.methodLink RX1 29 yX0_copy]
def wsL_law0_r6 : List Cond := [Cond.instanceMethod yX0_copy, Cond.selects RX0 yX0_copy yX0_copy, Cond.code yX0_copy cX0_copy 2 none, Cond.methodLink RX0 46 arraycopyName, Cond.native arraycopyName, Cond.static arraycopyName, Cond.initialized "java/lang/System", Cond.fieldLink RX0 52 "RestedArms$Board" "changes" "I", Cond.fieldLink RX0 55 "RestedArms$Board" "brought" "J", Cond.methodLink RX4 63 yX4_slotOf, Cond.static yX4_slotOf, Cond.code yX4_slotOf cX4_slotOf 2 (some .int), Cond.methodLink RX4 71 yX4_at, Cond.static yX4_at, Cond.code yX4_at cX4_at 2 (some .int), Cond.methodLink RX4 75 yX4_store, Cond.static yX4_store, Cond.code yX4_store cX4_store 3 none, Cond.methodLink RX4 79 yX2_forgetArm, Cond.instanceMethod yX2_forgetArm, Cond.selects RX2 yX2_forgetArm yX2_forgetArm, Cond.code yX2_forgetArm cX2_forgetArm 2 none, Cond.methodLink RL 88 yX5_gift, Cond.instanceMethod yX5_gift]
def wsL_law0_r7 : List Cond := [Cond.selects RX5 yX5_gift yX5_gift, Cond.code yX5_gift cX5_gift 4 (some .int), Cond.fieldLink RX5 42 "RestedArmsModel" "thrown" "I", Cond.methodLink RX5 120 yX5_isArm, Cond.static yX5_isArm, Cond.code yX5_isArm cX5_isArm 1 (some .boolean), Cond.methodLink RX5 46 yX5_in, Cond.static yX5_in, Cond.code yX5_in cX5_in 4 (some .boolean), Cond.methodLink RX5 124 yX5_isState, Cond.static yX5_isState, Cond.code yX5_isState cX5_isState 1 (some .boolean), Cond.methodLink RX5 53 yX5_fails, Cond.instanceMethod yX5_fails, Cond.selects RX5 yX5_fails yX5_fails, Cond.code yX5_fails cX5_fails 2 (some .int), Cond.methodLink RX5 127 yX5_saves, Cond.instanceMethod yX5_saves, Cond.selects RX5 yX5_saves yX5_saves, Cond.code yX5_saves cX5_saves 2 none, Cond.fieldLink RX5 50 "RestedArmsModel" "kept" "I", Cond.methodLink RX5 130 yX5_changes, Cond.instanceMethod yX5_changes, Cond.selects RX5 yX5_changes yX5_changes]
def wsL_law0_r8 : List Cond := [Cond.code yX5_changes cX5_changes 4 (some .int), Cond.methodLink RL 89 yX5_thrown, Cond.instanceMethod yX5_thrown, Cond.selects RX5 yX5_thrown yX5_thrown, Cond.code yX5_thrown cX5_thrown 1 (some .int), Cond.methodLink RL 92 yL_way, Cond.static yL_way, Cond.codeWith yL_way cL_way 8 (some .int) [(0, 16, 19, 13), (0, 16, 23, 15)], Cond.methodLink RL 17 yX4_way, Cond.instanceMethod yX4_way, Cond.selects RX4 yX4_way yX4_way, Cond.code yX4_way cX4_way 8 (some .int), Cond.fieldLink RX4 85 "RestedArms$Board" "goods" "[I", Cond.fieldLink RX4 88 "RestedArms$Board" "bads" "[I", Cond.fieldLink RX4 91 "RestedArms$Board" "chances" "[I", Cond.methodLink RL 95 yX5_way, Cond.instanceMethod yX5_way, Cond.selects RX5 yX5_way yX5_way, Cond.code yX5_way cX5_way 6 (some .int), Cond.methodLink RX5 134 yX5_ways, Cond.instanceMethod yX5_ways, Cond.selects RX5 yX5_ways yX5_ways, Cond.code yX5_ways cX5_ways 7 (some .int), Cond.methodLink RL 96 yL_put]
def wsL_law0_r9 : List Cond := [Cond.static yL_put, Cond.codeWith yL_put cL_put 5 (some .int) [(0, 10, 13, 13)], Cond.methodLink RL 21 yX4_put, Cond.instanceMethod yX4_put, Cond.selects RX4 yX4_put yX4_put, Cond.code yX4_put cX4_put 4 (some .int), Cond.fieldLink RX4 94 "RestedArms$Board" "places" "[I", Cond.methodLink RL 99 yX5_put, Cond.instanceMethod yX5_put, Cond.selects RX5 yX5_put yX5_put, Cond.code yX5_put cX5_put 3 (some .int), Cond.methodLink RL 100 yL_set, Cond.static yL_set, Cond.codeWith yL_set cL_set 5 (some .int) [(0, 10, 13, 13), (0, 10, 17, 15)], Cond.methodLink RL 25 yX4_set, Cond.instanceMethod yX4_set, Cond.selects RX4 yX4_set yX4_set, Cond.code yX4_set cX4_set 4 (some .int), Cond.fieldLink RX4 100 "RestedArms" "LEAST_SETTING" "[I", Cond.fieldLink RX4 103 "RestedArms" "GREATEST_SETTING" "[I", Cond.fieldLink RX4 108 "RestedArms$Board" "settings" "[I", Cond.methodLink RX4 97 yX4_needSetting, Cond.static yX4_needSetting, Cond.code yX4_needSetting cX4_needSetting 1 none]
def wsL_law0_r10 : List Cond := [Cond.methodLink RX4 111 yX2_forgetAll, Cond.instanceMethod yX2_forgetAll, Cond.selects RX2 yX2_forgetAll yX2_forgetAll, Cond.code yX2_forgetAll cX2_forgetAll 2 none, Cond.methodLink RL 102 yX5_set, Cond.instanceMethod yX5_set, Cond.selects RX5 yX5_set yX5_set, Cond.code yX5_set cX5_set 3 (some .int), Cond.methodLink RX5 138 yX5_isFor, Cond.static yX5_isFor, Cond.code yX5_isFor cX5_isFor 2 (some .boolean), Cond.methodLink RL 103 yL_pull, Cond.static yL_pull, Cond.codeWith yL_pull cL_pull 4 (some .int) [(0, 9, 12, 13), (0, 9, 15, 32)], Cond.classLink RL 32 "java/lang/IllegalStateException", Cond.methodLink RL 28 yX4_pull, Cond.instanceMethod yX4_pull, Cond.selects RX4 yX4_pull yX4_pull, Cond.code yX4_pull cX4_pull 2 (some .int), Cond.classLink RX4 121 "java/lang/IllegalStateException", Cond.initialized "java/lang/IllegalStateException", Cond.methodLink RX4 114 yX4_needArm, Cond.static yX4_needArm, Cond.code yX4_needArm cX4_needArm 1 none]
def wsL_law0_r11 : List Cond := [Cond.methodLink RX4 117 yX0_allPulls, Cond.instanceMethod yX0_allPulls, Cond.selects RX0 yX0_allPulls yX0_allPulls, Cond.code yX0_allPulls cX0_allPulls 3 (some .int), Cond.methodLink RX4 126 yX0_pullOnce, Cond.instanceMethod yX0_pullOnce, Cond.selects RX0 yX0_pullOnce yX0_pullOnce, Cond.code yX0_pullOnce cX0_pullOnce 5 none, Cond.constantLong RX0 72 (1000), Cond.constantLong RX0 84 (100), Cond.methodLink RX0 66 yX0_wouldChange, Cond.instanceMethod yX0_wouldChange, Cond.selects RX0 yX0_wouldChange yX0_wouldChange, Cond.code yX0_wouldChange cX0_wouldChange 2 (some .boolean), Cond.methodLink RX0 78 yJ9_floorDiv_f86c9, Cond.static yJ9_floorDiv_f86c9, Cond.initialized RJ9, Cond.code yJ9_floorDiv_f86c9 cJ9_floorDiv_f86c9 6 (some .long), Cond.methodLink RX0 86 yX0_goOn, Cond.instanceMethod yX0_goOn, Cond.selects RX0 yX0_goOn yX0_goOn, Cond.code yX0_goOn cX0_goOn 4 none, Cond.constantLong RX0 90 (6364136223846793005), Cond.constantLong RX0 92 (1442695040888963407)]
def wsL_law0_r12 : List Cond := [Cond.methodLink RL 106 yX5_pull, Cond.instanceMethod yX5_pull, Cond.selects RX5 yX5_pull yX5_pull, Cond.code yX5_pull cX5_pull 2 (some .int), Cond.constantLong RX5 142 (9999), Cond.methodLink RX5 117 yX5_pulls, Cond.static yX5_pulls, Cond.code yX5_pulls cX5_pulls 6 none, Cond.constantLong RX5 63 (1000), Cond.constantLong RX5 69 (100), Cond.methodLink RX5 97 yX5_isOther, Cond.static yX5_isOther, Cond.code yX5_isOther cX5_isOther 2 (some .boolean), Cond.methodLink RX5 82 yX5_stands, Cond.static yX5_stands, Cond.code yX5_stands cX5_stands 2 (some .int), Cond.methodLink RX5 57 yX5_of, Cond.static yX5_of, Cond.code yX5_of cX5_of 4 (some .int), Cond.methodLink RX5 101 yX5_down, Cond.static yX5_down, Cond.code yX5_down cX5_down 6 (some .long), Cond.methodLink RX5 105 yX5_goesOn, Cond.static yX5_goesOn]
def wsL_law0_r13 : List Cond := [Cond.code yX5_goesOn cX5_goesOn 4 none, Cond.methodLink RX5 93 yX5_draws, Cond.static yX5_draws, Cond.code yX5_draws cX5_draws 1 (some .int), Cond.constantLong RX5 89 (6364136223846793005), Cond.constantLong RX5 91 (1442695040888963407), Cond.methodLink RL 107 yL_play, Cond.static yL_play, Cond.codeWith yL_play cL_play 5 (some .int) [(0, 10, 13, 15), (0, 10, 17, 32)], Cond.methodLink RL 34 yX4_play, Cond.instanceMethod yX4_play, Cond.selects RX4 yX4_play yX4_play, Cond.code yX4_play cX4_play 4 (some .int), Cond.fieldLink RX4 140 "RestedArms$Board" "changes" "I", Cond.methodLink RX4 129 yX4_needRule, Cond.static yX4_needRule, Cond.code yX4_needRule cX4_needRule 1 none, Cond.methodLink RX4 132 yX4_needPulls, Cond.static yX4_needPulls, Cond.code yX4_needPulls cX4_needPulls 1 none, Cond.methodLink RX4 137 yX2_refresh, Cond.instanceMethod yX2_refresh, Cond.selects RX2 yX2_refresh yX2_refresh, Cond.code yX2_refresh cX2_refresh 4 none]
def wsL_law0_r14 : List Cond := [Cond.methodLink RX2 29 yX2_find, Cond.instanceMethod yX2_find, Cond.selects RX2 yX2_find yX2_find, Cond.code yX2_find cX2_find 6 (some .long), Cond.fieldLink RX2 37 "RestedArms$Board" "settings" "[I", Cond.methodLink RX2 47 yX2_clearValues, Cond.instanceMethod yX2_clearValues, Cond.selects RX2 yX2_clearValues yX2_clearValues, Cond.code yX2_clearValues cX2_clearValues 2 none, Cond.methodLink RX2 50 yX2_turn, Cond.instanceMethod yX2_turn, Cond.selects RX2 yX2_turn yX2_turn, Cond.code yX2_turn cX2_turn 18 none, Cond.fieldLink RX2 58 "RestedArms$Board" "chances" "[I", Cond.fieldLink RX2 61 "RestedArms$Board" "goods" "[I", Cond.fieldLink RX2 67 "RestedArms$Board" "bads" "[I", Cond.constantLong RX2 70 (8), Cond.constantLong RX2 78 (100), Cond.constantLong RX2 80 (1000), Cond.fieldLink RX2 82 "RestedArms$Board" "gifts" "[I", Cond.methodLink RX2 85 Lib.MathLoose.max_long.x, Cond.static Lib.MathLoose.max_long.x, Cond.initialized "java/lang/Math", Cond.code Lib.MathLoose.max_long.x Lib.MathLoose.max_long.code 4 (some .long)]
def wsL_law0_r15 : List Cond := [Cond.static yX4_at_, Cond.code yX4_at_ cX4_at_ 2 (some .long), Cond.methodLink RX2 72 yJ9_floorDiv_f86c9, Cond.static yX4_store_, Cond.code yX4_store_ cX4_store_ 4 none, Cond.methodLink RX2 54 yX2_indexNow, Cond.instanceMethod yX2_indexNow, Cond.selects RX2 yX2_indexNow yX2_indexNow, Cond.code yX2_indexNow cX2_indexNow 3 (some .long), Cond.methodLink RX4 144 yX4_playOn, Cond.instanceMethod yX4_playOn, Cond.selects RX4 yX4_playOn yX4_playOn, Cond.code yX4_playOn cX4_playOn 5 none, Cond.methodLink RX4 223 yX4_chosenBy, Cond.instanceMethod yX4_chosenBy, Cond.selects RX4 yX4_chosenBy yX4_chosenBy, Cond.code yX4_chosenBy cX4_chosenBy 3 (some .int), Cond.fieldLink RX4 206 "RestedArms$Board" "last" "I", Cond.methodLink RX4 234 yX4_scoreAll, Cond.instanceMethod yX4_scoreAll, Cond.selects RX4 yX4_scoreAll yX4_scoreAll, Cond.code yX4_scoreAll cX4_scoreAll 7 none, Cond.fieldLink RX4 188 "RestedArms$Indices" "table" "[J", Cond.methodLink RX4 191 yX4_at_]
def wsL_law0_r16 : List Cond := [Cond.methodLink RX4 325 yX0_costOf, Cond.instanceMethod yX0_costOf, Cond.selects RX0 yX0_costOf yX0_costOf, Cond.code yX0_costOf cX0_costOf 5 (some .long), Cond.constantLong RX0 70 (10), Cond.methodLink RX4 328 yX4_store_, Cond.methodLink RX4 322 yX4_greatestScore, Cond.instanceMethod yX4_greatestScore, Cond.selects RX4 yX4_greatestScore yX4_greatestScore, Cond.code yX4_greatestScore cX4_greatestScore 4 (some .int), Cond.methodLink RL 109 yX5_play, Cond.instanceMethod yX5_play, Cond.selects RX5 yX5_play yX5_play, Cond.code yX5_play cX5_play 5 (some .int), Cond.methodLink RX5 144 yX5_isPlay, Cond.static yX5_isPlay, Cond.code yX5_isPlay cX5_isPlay 2 (some .boolean), Cond.methodLink RX5 147 yX5_plays, Cond.instanceMethod yX5_plays, Cond.selects RX5 yX5_plays yX5_plays, Cond.code yX5_plays cX5_plays 5 none, Cond.methodLink RX5 114 yX5_chosen, Cond.instanceMethod yX5_chosen, Cond.selects RX5 yX5_chosen yX5_chosen]
def wsL_law0_r17 : List Cond := [Cond.code yX5_chosen cX5_chosen 9 (some .int), Cond.methodLink RX5 111 yX5_worth, Cond.instanceMethod yX5_worth, Cond.selects RX5 yX5_worth yX5_worth, Cond.code yX5_worth cX5_worth 6 (some .long), Cond.constantLong RX5 109 (10), Cond.methodLink RX5 86 yX5_indexOf, Cond.instanceMethod yX5_indexOf, Cond.selects RX5 yX5_indexOf yX5_indexOf, Cond.code yX5_indexOf cX5_indexOf 5 (some .long), Cond.methodLink RX5 71 yX5_begins, Cond.instanceMethod yX5_begins, Cond.selects RX5 yX5_begins yX5_begins, Cond.code yX5_begins cX5_begins 2 none, Cond.methodLink RX5 74 yX5_round, Cond.instanceMethod yX5_round, Cond.selects RX5 yX5_round yX5_round, Cond.code yX5_round cX5_round 5 none, Cond.methodLink RX5 65 yX5_expected, Cond.instanceMethod yX5_expected, Cond.selects RX5 yX5_expected yX5_expected, Cond.code yX5_expected cX5_expected 5 (some .long), Cond.constantLong RX5 61 (8), Cond.methodLink RX5 78 yX5_indexBy]
def wsL_law0_r18 : List Cond := [Cond.instanceMethod yX5_indexBy, Cond.selects RX5 yX5_indexBy yX5_indexBy, Cond.code yX5_indexBy cX5_indexBy 3 (some .long), Cond.methodLink RL 112 yX4_begin, Cond.instanceMethod yX4_begin, Cond.selects RX4 yX4_begin yX4_begin, Cond.code yX4_begin cX4_begin 4 (some .int), Cond.methodLink RX4 148 yX0_beginAnew, Cond.instanceMethod yX0_beginAnew, Cond.selects RX0 yX0_beginAnew yX0_beginAnew, Cond.code yX0_beginAnew cX0_beginAnew 4 none, Cond.methodLink RL 116 yX5_begin, Cond.instanceMethod yX5_begin, Cond.selects RX5 yX5_begin yX5_begin, Cond.code yX5_begin cX5_begin 5 (some .int), Cond.methodLink RL 117 yL_append, Cond.static yL_append, Cond.codeWith yL_append cL_append 4 (some .int) [(0, 9, 12, 15), (0, 9, 15, 32)], Cond.methodLink RL 37 yX4_append, Cond.instanceMethod yX4_append, Cond.selects RX4 yX4_append yX4_append, Cond.code yX4_append cX4_append 2 (some .int), Cond.fieldLink RX4 154 "RestedArms$Text" "length" "I", Cond.fieldLink RX4 159 "RestedArms$Text" "codes" "[I"]
def wsL_law0_r19 : List Cond := [Cond.methodLink RL 119 yX5_append, Cond.instanceMethod yX5_append, Cond.selects RX5 yX5_append yX5_append, Cond.code yX5_append cX5_append 2 (some .int), Cond.fieldLink RX5 150 "RestedArmsModel" "typed" "I", Cond.methodLink RL 120 yX4_clearBuffer, Cond.instanceMethod yX4_clearBuffer, Cond.selects RX4 yX4_clearBuffer yX4_clearBuffer, Cond.code yX4_clearBuffer cX4_clearBuffer 2 (some .int), Cond.methodLink RL 123 yX5_clearBuffer, Cond.instanceMethod yX5_clearBuffer, Cond.selects RX5 yX5_clearBuffer yX5_clearBuffer, Cond.code yX5_clearBuffer cX5_clearBuffer 2 (some .int), Cond.methodLink RL 124 yX4_firstError, Cond.instanceMethod yX4_firstError, Cond.selects RX4 yX4_firstError yX4_firstError, Cond.code yX4_firstError cX4_firstError 1 (some .int), Cond.methodLink RX4 162 yX3_errorPlace, Cond.instanceMethod yX3_errorPlace, Cond.selects RX3 yX3_errorPlace yX3_errorPlace, Cond.code yX3_errorPlace cX3_errorPlace 3 (some .int), Cond.fieldLink RX3 15 "RestedArms$Text" "length" "I", Cond.methodLink RX3 23 yX3_nextStage, Cond.static yX3_nextStage]
def wsL_law0_r20 : List Cond := [Cond.code yX3_nextStage cX3_nextStage 2 (some .int), Cond.methodLink RX3 52 yX3_isStateLetter, Cond.static yX3_isStateLetter, Cond.code yX3_isStateLetter cX3_isStateLetter 1 (some .boolean), Cond.methodLink RX3 56 yX3_firstDigit, Cond.static yX3_firstDigit, Cond.code yX3_firstDigit cX3_firstDigit 1 (some .int), Cond.methodLink RX3 60 yX3_behindGift, Cond.static yX3_behindGift, Cond.code yX3_behindGift cX3_behindGift 1 (some .int), Cond.methodLink RL 127 yX5_firstError, Cond.instanceMethod yX5_firstError, Cond.selects RX5 yX5_firstError yX5_firstError, Cond.code yX5_firstError cX5_firstError 2 (some .int), Cond.fieldLink RX5 156 "RestedArmsModel" "isFault" "Z", Cond.fieldLink RX5 153 "RestedArmsModel" "at" "I", Cond.methodLink RX5 180 yX5_isText, Cond.instanceMethod yX5_isText, Cond.selects RX5 yX5_isText yX5_isText, Cond.code yX5_isText cX5_isText 2 (some .boolean), Cond.fieldLink RX5 167 "RestedArmsModel" "tolds" "I", Cond.methodLink RX5 177 yX5_isPart, Cond.instanceMethod yX5_isPart, Cond.selects RX5 yX5_isPart yX5_isPart]
def wsL_law0_r21 : List Cond := [Cond.code yX5_isPart cX5_isPart 1 (some .boolean), Cond.methodLink RX5 170 yX5_isSign, Cond.instanceMethod yX5_isSign, Cond.selects RX5 yX5_isSign yX5_isSign, Cond.code yX5_isSign cX5_isSign 4 (some .boolean), Cond.methodLink RX5 160 yX5_isAt, Cond.instanceMethod yX5_isAt, Cond.selects RX5 yX5_isAt yX5_isAt, Cond.code yX5_isAt cX5_isAt 3 (some .boolean), Cond.methodLink RX5 163 yX5_stops, Cond.instanceMethod yX5_stops, Cond.selects RX5 yX5_stops yX5_stops, Cond.code yX5_stops cX5_stops 1 (some .boolean), Cond.methodLink RX5 174 yX5_isGift, Cond.instanceMethod yX5_isGift, Cond.selects RX5 yX5_isGift yX5_isGift, Cond.code yX5_isGift cX5_isGift 2 (some .boolean), Cond.methodLink RL 128 yL_read, Cond.static yL_read, Cond.codeWith yL_read cL_read 3 (some .int) [(0, 8, 11, 15)], Cond.methodLink RL 40 yX4_read, Cond.instanceMethod yX4_read, Cond.selects RX4 yX4_read yX4_read, Cond.code yX4_read cX4_read 2 (some .int)]
def wsL_law0_r22 : List Cond := [Cond.methodLink RX4 165 yX3_isWhole, Cond.instanceMethod yX3_isWhole, Cond.selects RX3 yX3_isWhole yX3_isWhole, Cond.code yX3_isWhole cX3_isWhole 3 (some .boolean), Cond.methodLink RX4 171 yX3_moveInto, Cond.instanceMethod yX3_moveInto, Cond.selects RX3 yX3_moveInto yX3_moveInto, Cond.code yX3_moveInto cX3_moveInto 8 (some .int), Cond.fieldLink RX3 30 "RestedArms$Board" "gifts" "[I", Cond.fieldLink RX3 39 "RestedArms$Board" "goods" "[I", Cond.fieldLink RX3 42 "RestedArms$Board" "bads" "[I", Cond.fieldLink RX3 45 "RestedArms$Board" "chances" "[I", Cond.methodLink RL 131 yX5_read, Cond.instanceMethod yX5_read, Cond.selects RX5 yX5_read yX5_read, Cond.code yX5_read cX5_read 4 (some .int), Cond.methodLink RL 132 yL_undo, Cond.static yL_undo, Cond.codeWith yL_undo cL_undo 3 (some .int) [(0, 8, 11, 32)], Cond.methodLink RL 44 yX4_undo, Cond.instanceMethod yX4_undo, Cond.selects RX4 yX4_undo yX4_undo, Cond.code yX4_undo cX4_undo 1 (some .int), Cond.fieldLink RX4 175 "RestedArms$History" "count" "I"]
def wsL_law0_r23 : List Cond := [Cond.methodLink RX4 180 yX1_bringBack, Cond.instanceMethod yX1_bringBack, Cond.selects RX1 yX1_bringBack yX1_bringBack, Cond.code yX1_bringBack cX1_bringBack 3 none, Cond.methodLink RL 134 yX5_undo, Cond.instanceMethod yX5_undo, Cond.selects RX5 yX5_undo yX5_undo, Cond.code yX5_undo cX5_undo 2 (some .int), Cond.methodLink RL 135 yL_stateOf, Cond.static yL_stateOf, Cond.codeWith yL_stateOf cL_stateOf 6 (some .int) [(0, 12, 15, 13), (0, 12, 19, 15)], Cond.methodLink RL 47 yX4_stateOf, Cond.instanceMethod yX4_stateOf, Cond.selects RX4 yX4_stateOf yX4_stateOf, Cond.code yX4_stateOf cX4_stateOf 5 (some .int), Cond.methodLink RX4 183 yX4_reachedFrom, Cond.instanceMethod yX4_reachedFrom, Cond.selects RX4 yX4_reachedFrom yX4_reachedFrom, Cond.code yX4_reachedFrom cX4_reachedFrom 6 (some .int), Cond.methodLink RX4 315 yX4_nextOf, Cond.instanceMethod yX4_nextOf, Cond.selects RX4 yX4_nextOf yX4_nextOf, Cond.code yX4_nextOf cX4_nextOf 5 (some .int), Cond.methodLink RL 137 yX5_stateOf]
def wsL_law0_r24 : List Cond := [Cond.instanceMethod yX5_stateOf, Cond.selects RX5 yX5_stateOf yX5_stateOf, Cond.code yX5_stateOf cX5_stateOf 4 (some .int), Cond.methodLink RX5 186 yX5_ofState, Cond.instanceMethod yX5_ofState, Cond.selects RX5 yX5_ofState yX5_ofState, Cond.code yX5_ofState cX5_ofState 4 (some .int), Cond.methodLink RX5 183 yX5_reached, Cond.instanceMethod yX5_reached, Cond.selects RX5 yX5_reached yX5_reached, Cond.code yX5_reached cX5_reached 6 (some .int), Cond.methodLink RL 138 yL_index, Cond.static yL_index, Cond.codeWith yL_index cL_index 5 (some .int) [(0, 9, 12, 13)], Cond.methodLink RL 50 yX4_index, Cond.instanceMethod yX4_index, Cond.selects RX4 yX4_index yX4_index, Cond.code yX4_index cX4_index 3 (some .long), Cond.methodLink RL 140 yX5_index, Cond.instanceMethod yX5_index, Cond.selects RX5 yX5_index yX5_index, Cond.code yX5_index cX5_index 3 (some .long), Cond.methodLink RL 141 yL_arm, Cond.static yL_arm]
def wsL_law0_r25 : List Cond := [Cond.codeWith yL_arm cL_arm 5 (some .int) [(0, 10, 13, 13), (0, 10, 17, 15)], Cond.methodLink RL 54 yX4_arm, Cond.instanceMethod yX4_arm, Cond.selects RX4 yX4_arm yX4_arm, Cond.code yX4_arm cX4_arm 3 (some .int), Cond.fieldLink RX4 194 "RestedArms$Board" "pulls" "[I", Cond.methodLink RX4 197 yX4_bestState, Cond.instanceMethod yX4_bestState, Cond.selects RX4 yX4_bestState yX4_bestState, Cond.code yX4_bestState cX4_bestState 4 (some .int), Cond.methodLink RX4 201 yX4_roundsNeeded, Cond.instanceMethod yX4_roundsNeeded, Cond.selects RX4 yX4_roundsNeeded yX4_roundsNeeded, Cond.code yX4_roundsNeeded cX4_roundsNeeded 3 (some .int), Cond.methodLink RX4 318 yX2_leastRounds, Cond.instanceMethod yX2_leastRounds, Cond.selects RX2 yX2_leastRounds yX2_leastRounds, Cond.code yX2_leastRounds cX2_leastRounds 8 (some .int), Cond.methodLink RL 143 yX5_arm, Cond.instanceMethod yX5_arm, Cond.selects RX5 yX5_arm yX5_arm, Cond.code yX5_arm cX5_arm 3 (some .int), Cond.methodLink RX5 196 yX5_ofArm, Cond.instanceMethod yX5_ofArm]
def wsL_law0_r26 : List Cond := [Cond.selects RX5 yX5_ofArm yX5_ofArm, Cond.code yX5_ofArm cX5_ofArm 3 (some .int), Cond.methodLink RX5 190 yX5_greatest, Cond.instanceMethod yX5_greatest, Cond.selects RX5 yX5_greatest yX5_greatest, Cond.code yX5_greatest cX5_greatest 4 (some .int), Cond.methodLink RX5 193 yX5_rounds, Cond.instanceMethod yX5_rounds, Cond.selects RX5 yX5_rounds yX5_rounds, Cond.code yX5_rounds cX5_rounds 7 (some .int), Cond.methodLink RL 144 yL_count, Cond.static yL_count, Cond.codeWith yL_count cL_count 4 (some .int) [(0, 9, 12, 15)], Cond.methodLink RL 57 yX4_count, Cond.instanceMethod yX4_count, Cond.selects RX4 yX4_count yX4_count, Cond.code yX4_count cX4_count 2 (some .int), Cond.methodLink RL 146 yX5_count, Cond.instanceMethod yX5_count, Cond.selects RX5 yX5_count yX5_count, Cond.code yX5_count cX5_count 2 (some .int), Cond.methodLink RX5 199 yX5_counted, Cond.instanceMethod yX5_counted, Cond.selects RX5 yX5_counted yX5_counted]
def wsL_law0_r27 : List Cond := [Cond.code yX5_counted cX5_counted 2 (some .int), Cond.methodLink RL 147 yL_sum, Cond.static yL_sum, Cond.codeWith yL_sum cL_sum 4 (some .int) [(0, 8, 11, 15)], Cond.methodLink RL 60 yX4_sum, Cond.instanceMethod yX4_sum, Cond.selects RX4 yX4_sum yX4_sum, Cond.code yX4_sum cX4_sum 2 (some .long), Cond.fieldLink RX4 211 "RestedArms$Board" "brought" "J", Cond.fieldLink RX4 215 "RestedArms$Board" "weight" "J", Cond.fieldLink RX4 218 "RestedArms$Board" "row" "J", Cond.methodLink RL 149 yX5_sum, Cond.instanceMethod yX5_sum, Cond.selects RX5 yX5_sum yX5_sum, Cond.code yX5_sum cX5_sum 2 (some .long), Cond.methodLink RL 150 yL_setting, Cond.static yL_setting, Cond.codeWith yL_setting cL_setting 4 (some .int) [(0, 9, 12, 13)], Cond.methodLink RL 64 yX4_setting, Cond.instanceMethod yX4_setting, Cond.selects RX4 yX4_setting yX4_setting, Cond.code yX4_setting cX4_setting 2 (some .int), Cond.methodLink RL 152 yX5_setting, Cond.instanceMethod yX5_setting]
def wsL_law0_r28 : List Cond := [Cond.selects RX5 yX5_setting yX5_setting, Cond.code yX5_setting cX5_setting 2 (some .int), Cond.methodLink RL 153 yL_choice, Cond.static yL_choice, Cond.codeWith yL_choice cL_choice 4 (some .int) [(0, 9, 12, 15)], Cond.methodLink RL 67 yX4_choice, Cond.instanceMethod yX4_choice, Cond.selects RX4 yX4_choice yX4_choice, Cond.code yX4_choice cX4_choice 2 (some .int), Cond.methodLink RL 155 yX5_choice, Cond.instanceMethod yX5_choice, Cond.selects RX5 yX5_choice yX5_choice, Cond.code yX5_choice cX5_choice 2 (some .int), Cond.methodLink RL 156 yL_ifPlayed, Cond.static yL_ifPlayed, Cond.codeWith yL_ifPlayed cL_ifPlayed 5 (some .int) [(0, 9, 12, 15)], Cond.methodLink RL 70 yX4_ifPlayed, Cond.instanceMethod yX4_ifPlayed, Cond.selects RX4 yX4_ifPlayed yX4_ifPlayed, Cond.code yX4_ifPlayed cX4_ifPlayed 3 (some .long), Cond.methodLink RX4 227 yX4_gain, Cond.instanceMethod yX4_gain, Cond.selects RX4 yX4_gain yX4_gain, Cond.code yX4_gain cX4_gain 3 (some .long)]
def wsL_law0_r29 : List Cond := [Cond.methodLink RX4 231 yX0_copy, Cond.methodLink RL 158 yX5_ifPlayed, Cond.instanceMethod yX5_ifPlayed, Cond.selects RX5 yX5_ifPlayed yX5_ifPlayed, Cond.code yX5_ifPlayed cX5_ifPlayed 3 (some .long), Cond.methodLink RX5 205 yX5_byPlay, Cond.instanceMethod yX5_byPlay, Cond.selects RX5 yX5_byPlay yX5_byPlay, Cond.code yX5_byPlay cX5_byPlay 3 (some .long), Cond.methodLink RX5 202 yX5_tries, Cond.instanceMethod yX5_tries, Cond.selects RX5 yX5_tries yX5_tries, Cond.code yX5_tries cX5_tries 2 none, Cond.methodLink RL 159 yL_bestRule, Cond.static yL_bestRule, Cond.codeWith yL_bestRule cL_bestRule 4 (some .int) [(0, 9, 12, 15)], Cond.methodLink RL 73 yX4_bestRule, Cond.instanceMethod yX4_bestRule, Cond.selects RX4 yX4_bestRule yX4_bestRule, Cond.code yX4_bestRule cX4_bestRule 8 (some .int), Cond.methodLink RL 161 yX5_bestRule, Cond.instanceMethod yX5_bestRule, Cond.selects RX5 yX5_bestRule yX5_bestRule, Cond.code yX5_bestRule cX5_bestRule 2 (some .int)]
def wsL_law0_r30 : List Cond := [Cond.methodLink RX5 209 yX5_best, Cond.instanceMethod yX5_best, Cond.selects RX5 yX5_best yX5_best, Cond.code yX5_best cX5_best 4 (some .int), Cond.methodLink RL 162 yL_giftFor, Cond.static yL_giftFor, Cond.codeWith yL_giftFor cL_giftFor 5 (some .int) [(0, 10, 13, 13)], Cond.methodLink RL 76 yX4_giftFor, Cond.instanceMethod yX4_giftFor, Cond.selects RX4 yX4_giftFor yX4_giftFor, Cond.code yX4_giftFor cX4_giftFor 7 (some .int), Cond.methodLink RX4 238 yX4_wouldChoose, Cond.instanceMethod yX4_wouldChoose, Cond.selects RX4 yX4_wouldChoose yX4_wouldChoose, Cond.code yX4_wouldChoose cX4_wouldChoose 6 (some .boolean), Cond.methodLink RX4 331 yX2_find, Cond.methodLink RL 164 yX5_giftFor, Cond.instanceMethod yX5_giftFor, Cond.selects RX5 yX5_giftFor yX5_giftFor, Cond.code yX5_giftFor cX5_giftFor 3 (some .int), Cond.methodLink RX5 212 yX5_least, Cond.instanceMethod yX5_least, Cond.selects RX5 yX5_least yX5_least, Cond.code yX5_least cX5_least 4 (some .int)]
def wsL_law0_r31 : List Cond := [Cond.methodLink RL 165 yX4_evenness, Cond.instanceMethod yX4_evenness, Cond.selects RX4 yX4_evenness yX4_evenness, Cond.code yX4_evenness cX4_evenness 4 (some .double), Cond.methodLink RX4 241 Lib.Math.min.name, Cond.static Lib.Math.min.name, Cond.code Lib.Math.min.name Lib.Math.min.code 2 (some .int), Cond.methodLink RX4 246 Lib.Math.max.name, Cond.static Lib.Math.max.name, Cond.code Lib.Math.max.name Lib.Math.max.code 2 (some .int), Cond.methodLink RL 169 yX5_evenness, Cond.instanceMethod yX5_evenness, Cond.selects RX5 yX5_evenness yX5_evenness, Cond.code yX5_evenness cX5_evenness 1 (some .double), Cond.methodLink RX5 215 yX5_even, Cond.instanceMethod yX5_even, Cond.selects RX5 yX5_even yX5_even, Cond.code yX5_even cX5_even 8 (some .double), Cond.methodLink RL 170 yX4_digest, Cond.instanceMethod yX4_digest, Cond.selects RX4 yX4_digest yX4_digest, Cond.code yX4_digest cX4_digest 4 (some .long), Cond.constantLong RX4 249 (2843), Cond.constantLong RX4 251 (31)]
def wsL_law0_r32 : List Cond := [Cond.methodLink RX4 253 yX4_count, Cond.methodLink RX4 255 yX4_sum, Cond.methodLink RX4 259 yX4_setting, Cond.methodLink RX4 262 yX4_hashOfArm, Cond.instanceMethod yX4_hashOfArm, Cond.selects RX4 yX4_hashOfArm yX4_hashOfArm, Cond.code yX4_hashOfArm cX4_hashOfArm 8 (some .long), Cond.methodLink RX4 286 yX4_arm, Cond.methodLink RX4 289 yX4_stateOf, Cond.methodLink RX4 293 yX4_index, Cond.methodLink RX4 266 yX4_choice, Cond.methodLink RX4 269 yX4_ifPlayed, Cond.methodLink RX4 272 yX4_bestRule, Cond.methodLink RX4 275 yX4_giftFor, Cond.methodLink RX4 278 yX4_evenness, Cond.methodLink RX4 282 yX4_bitsOf, Cond.static yX4_bitsOf, Cond.code yX4_bitsOf cX4_bitsOf 7 (some .long), Cond.constantLong RX4 296 (1023), Cond.constantDouble RX4 298 (4611686018427387904), Cond.constantDouble RX4 300 (4841369599423283200), Cond.methodLink RL 174 yX5_digest, Cond.instanceMethod yX5_digest, Cond.selects RX5 yX5_digest yX5_digest]
def wsL_law0_r33 : List Cond := [Cond.code yX5_digest cX5_digest 6 (some .long), Cond.constantLong RX5 219 (2843), Cond.constantLong RX5 221 (31), Cond.methodLink RX5 223 yJxe99ae_doubleToLongBits_ccdee, Cond.static yJxe99ae_doubleToLongBits_ccdee, Cond.initialized RJxe99ae, Cond.code yJxe99ae_doubleToLongBits_ccdee cJxe99ae_doubleToLongBits_ccdee 2 (some .long), Cond.methodLink RJxe99ae 134 ⟨"java/lang/Double", "doubleToRawLongBits", "(D)J"⟩, Cond.native ⟨"java/lang/Double", "doubleToRawLongBits", "(D)J"⟩, Cond.static ⟨"java/lang/Double", "doubleToRawLongBits", "(D)J"⟩, Cond.initialized "java/lang/Double", Cond.constantLong RJxe99ae 137 (9221120237041090560), Cond.methodLink RJxe99ae 122 yJxe99ae_isNaN_b9ae7, Cond.static yJxe99ae_isNaN_b9ae7, Cond.code yJxe99ae_isNaN_b9ae7 cJxe99ae_isNaN_b9ae7 2 (some .boolean)]
def wsL_law0 : List Cond := (wsL_law0_r1 ++ (wsL_law0_r2 ++ (wsL_law0_r3 ++ (wsL_law0_r4 ++ (wsL_law0_r5 ++ (wsL_law0_r6 ++ (wsL_law0_r7 ++ (wsL_law0_r8 ++ (wsL_law0_r9 ++ (wsL_law0_r10 ++ (wsL_law0_r11 ++ (wsL_law0_r12 ++ (wsL_law0_r13 ++ (wsL_law0_r14 ++ (wsL_law0_r15 ++ (wsL_law0_r16 ++ (wsL_law0_r17 ++ (wsL_law0_r18 ++ (wsL_law0_r19 ++ (wsL_law0_r20 ++ (wsL_law0_r21 ++ (wsL_law0_r22 ++ (wsL_law0_r23 ++ (wsL_law0_r24 ++ (wsL_law0_r25 ++ (wsL_law0_r26 ++ (wsL_law0_r27 ++ (wsL_law0_r28 ++ (wsL_law0_r29 ++ (wsL_law0_r30 ++ (wsL_law0_r31 ++ (wsL_law0_r32 ++ wsL_law0_r33)))))))))))))))))))))))))))))))) ++ wsX40 ++ wsX50 ++ wsX00 ++ wsX10 ++ wsX20 ++ wsX30 ++ ([] : List Cond)
def wsL_law : List Cond := wsL_law0 ++ (vx_atS RX4 56 "java/lang/IllegalArgumentException" ["java/lang/RuntimeException", "java/lang/Exception"]).filter goodWord ++ (vx_atS RX4 306 "java/lang/IndexOutOfBoundsException" ["java/lang/RuntimeException", "java/lang/Exception"]).filter goodWord ++ (vx_atS RX4 125 "java/lang/IllegalStateException" ["java/lang/RuntimeException", "java/lang/Exception"]).filter goodWord
end
section
theorem dX0_init_0 : decode cX0_init 0 = .ok (.aload_n 0, 1) := by decide +kernel
theorem dX0_init_1 : decode cX0_init 1 = .ok (.invokespecial 3, 3) := by decide +kernel
theorem dX0_init_4 : decode cX0_init 4 = .ok (.aload_n 0, 1) := by decide +kernel
theorem dX0_init_5 : decode cX0_init 5 = .ok (.bipush 16, 2) := by decide +kernel
theorem dX0_init_7 : decode cX0_init 7 = .ok (.newarray .int, 2) := by decide +kernel
theorem dX0_init_9 : decode cX0_init 9 = .ok (.putfield 9, 3) := by decide +kernel
theorem dX0_init_12 : decode cX0_init 12 = .ok (.aload_n 0, 1) := by decide +kernel
theorem dX0_init_13 : decode cX0_init 13 = .ok (.bipush 16, 2) := by decide +kernel
theorem dX0_init_15 : decode cX0_init 15 = .ok (.newarray .int, 2) := by decide +kernel
theorem dX0_init_17 : decode cX0_init 17 = .ok (.putfield 15, 3) := by decide +kernel
theorem dX0_init_20 : decode cX0_init 20 = .ok (.aload_n 0, 1) := by decide +kernel
theorem dX0_init_21 : decode cX0_init 21 = .ok (.bipush 16, 2) := by decide +kernel
theorem dX0_init_23 : decode cX0_init 23 = .ok (.newarray .int, 2) := by decide +kernel
theorem dX0_init_25 : decode cX0_init 25 = .ok (.putfield 18, 3) := by decide +kernel
theorem dX0_init_28 : decode cX0_init 28 = .ok (.aload_n 0, 1) := by decide +kernel
theorem dX0_init_29 : decode cX0_init 29 = .ok (.bipush 16, 2) := by decide +kernel
theorem dX0_init_31 : decode cX0_init 31 = .ok (.newarray .int, 2) := by decide +kernel
theorem dX0_init_33 : decode cX0_init 33 = .ok (.putfield 21, 3) := by decide +kernel
theorem dX0_init_36 : decode cX0_init 36 = .ok (.aload_n 0, 1) := by decide +kernel
theorem dX0_init_37 : decode cX0_init 37 = .ok (.iconst 4, 1) := by decide +kernel
theorem dX0_init_38 : decode cX0_init 38 = .ok (.newarray .int, 2) := by decide +kernel
theorem dX0_init_40 : decode cX0_init 40 = .ok (.putfield 24, 3) := by decide +kernel
theorem dX0_init_43 : decode cX0_init 43 = .ok (.aload_n 0, 1) := by decide +kernel
theorem dX0_init_44 : decode cX0_init 44 = .ok (.iconst 4, 1) := by decide +kernel
theorem dX0_init_45 : decode cX0_init 45 = .ok (.newarray .int, 2) := by decide +kernel
theorem dX0_init_47 : decode cX0_init 47 = .ok (.putfield 27, 3) := by decide +kernel
theorem dX0_init_50 : decode cX0_init 50 = .ok (.aload_n 0, 1) := by decide +kernel
theorem dX0_init_51 : decode cX0_init 51 = .ok (.iconst 4, 1) := by decide +kernel
theorem dX0_init_52 : decode cX0_init 52 = .ok (.newarray .int, 2) := by decide +kernel
theorem dX0_init_54 : decode cX0_init 54 = .ok (.putfield 30, 3) := by decide +kernel
theorem dX0_init_57 : decode cX0_init 57 = .ok (.iconst 0, 1) := by decide +kernel
theorem dX0_init_58 : decode cX0_init 58 = .ok (.istore_n 1, 1) := by decide +kernel
theorem dX0_init_59 : decode cX0_init 59 = .ok (.iload_n 1, 1) := by decide +kernel
theorem dX0_init_60 : decode cX0_init 60 = .ok (.bipush 16, 2) := by decide +kernel
theorem dX0_init_62 : decode cX0_init 62 = .ok (.if_icmp .ge 34, 3) := by decide +kernel
theorem dX0_init_65 : decode cX0_init 65 = .ok (.aload_n 0, 1) := by decide +kernel
theorem dX0_init_66 : decode cX0_init 66 = .ok (.getfield 15, 3) := by decide +kernel
theorem dX0_init_69 : decode cX0_init 69 = .ok (.iload_n 1, 1) := by decide +kernel
theorem dX0_init_70 : decode cX0_init 70 = .ok (.iload_n 1, 1) := by decide +kernel
theorem dX0_init_71 : decode cX0_init 71 = .ok (.iconst 4, 1) := by decide +kernel
theorem dX0_init_72 : decode cX0_init 72 = .ok (.irem, 1) := by decide +kernel
theorem dX0_init_73 : decode cX0_init 73 = .ok (.iastore, 1) := by decide +kernel
theorem dX0_init_74 : decode cX0_init 74 = .ok (.aload_n 0, 1) := by decide +kernel
theorem dX0_init_75 : decode cX0_init 75 = .ok (.getfield 18, 3) := by decide +kernel
theorem dX0_init_78 : decode cX0_init 78 = .ok (.iload_n 1, 1) := by decide +kernel
theorem dX0_init_79 : decode cX0_init 79 = .ok (.iload_n 1, 1) := by decide +kernel
theorem dX0_init_80 : decode cX0_init 80 = .ok (.iconst 4, 1) := by decide +kernel
theorem dX0_init_81 : decode cX0_init 81 = .ok (.irem, 1) := by decide +kernel
theorem dX0_init_82 : decode cX0_init 82 = .ok (.iastore, 1) := by decide +kernel
theorem dX0_init_83 : decode cX0_init 83 = .ok (.aload_n 0, 1) := by decide +kernel
theorem dX0_init_84 : decode cX0_init 84 = .ok (.getfield 21, 3) := by decide +kernel
theorem dX0_init_87 : decode cX0_init 87 = .ok (.iload_n 1, 1) := by decide +kernel
theorem dX0_init_88 : decode cX0_init 88 = .ok (.iconst 4, 1) := by decide +kernel
theorem dX0_init_89 : decode cX0_init 89 = .ok (.iastore, 1) := by decide +kernel
theorem dX0_init_90 : decode cX0_init 90 = .ok (.iinc 1 1, 3) := by decide +kernel
theorem dX0_init_93 : decode cX0_init 93 = .ok (.goto (-34), 3) := by decide +kernel
theorem dX0_init_96 : decode cX0_init 96 = .ok (.aload_n 0, 1) := by decide +kernel
theorem dX0_init_97 : decode cX0_init 97 = .ok (.getfield 30, 3) := by decide +kernel
theorem dX0_init_100 : decode cX0_init 100 = .ok (.iconst 0, 1) := by decide +kernel
theorem dX0_init_101 : decode cX0_init 101 = .ok (.bipush 90, 2) := by decide +kernel
theorem dX0_init_103 : decode cX0_init 103 = .ok (.iastore, 1) := by decide +kernel
theorem dX0_init_104 : decode cX0_init 104 = .ok (.aload_n 0, 1) := by decide +kernel
theorem dX0_init_105 : decode cX0_init 105 = .ok (.getfield 30, 3) := by decide +kernel
theorem dX0_init_108 : decode cX0_init 108 = .ok (.iconst 1, 1) := by decide +kernel
theorem dX0_init_109 : decode cX0_init 109 = .ok (.bipush 20, 2) := by decide +kernel
theorem dX0_init_111 : decode cX0_init 111 = .ok (.iastore, 1) := by decide +kernel
theorem dX0_init_112 : decode cX0_init 112 = .ok (.aload_n 0, 1) := by decide +kernel
theorem dX0_init_113 : decode cX0_init 113 = .ok (.iconst (-1), 1) := by decide +kernel
theorem dX0_init_114 : decode cX0_init 114 = .ok (.putfield 33, 3) := by decide +kernel
theorem dX0_init_117 : decode cX0_init 117 = .ok (.aload_n 0, 1) := by decide +kernel
theorem dX0_init_118 : decode cX0_init 118 = .ok (.ldc2_w 37, 3) := by decide +kernel
theorem dX0_init_121 : decode cX0_init 121 = .ok (.putfield 39, 3) := by decide +kernel
theorem dX0_init_124 : decode cX0_init 124 = .ok (.aload_n 0, 1) := by decide +kernel
theorem dX0_init_125 : decode cX0_init 125 = .ok (.lconst 1, 1) := by decide +kernel
theorem dX0_init_126 : decode cX0_init 126 = .ok (.putfield 43, 3) := by decide +kernel
theorem dX0_init_129 : decode cX0_init 129 = .ok (.return_, 1) := by decide +kernel
theorem dX0_copy_0 : decode cX0_copy 0 = .ok (.aload_n 1, 1) := by decide +kernel
theorem dX0_copy_1 : decode cX0_copy 1 = .ok (.getfield 9, 3) := by decide +kernel
theorem dX0_copy_4 : decode cX0_copy 4 = .ok (.iconst 0, 1) := by decide +kernel
theorem dX0_copy_5 : decode cX0_copy 5 = .ok (.aload_n 0, 1) := by decide +kernel
theorem dX0_copy_6 : decode cX0_copy 6 = .ok (.getfield 9, 3) := by decide +kernel
theorem dX0_copy_9 : decode cX0_copy 9 = .ok (.iconst 0, 1) := by decide +kernel
theorem dX0_copy_10 : decode cX0_copy 10 = .ok (.bipush 16, 2) := by decide +kernel
theorem dX0_copy_12 : decode cX0_copy 12 = .ok (.invokestatic 46, 3) := by decide +kernel
theorem dX0_copy_15 : decode cX0_copy 15 = .ok (.aload_n 1, 1) := by decide +kernel
theorem dX0_copy_16 : decode cX0_copy 16 = .ok (.getfield 15, 3) := by decide +kernel
theorem dX0_copy_19 : decode cX0_copy 19 = .ok (.iconst 0, 1) := by decide +kernel
theorem dX0_copy_20 : decode cX0_copy 20 = .ok (.aload_n 0, 1) := by decide +kernel
theorem dX0_copy_21 : decode cX0_copy 21 = .ok (.getfield 15, 3) := by decide +kernel
theorem dX0_copy_24 : decode cX0_copy 24 = .ok (.iconst 0, 1) := by decide +kernel
theorem dX0_copy_25 : decode cX0_copy 25 = .ok (.bipush 16, 2) := by decide +kernel
theorem dX0_copy_27 : decode cX0_copy 27 = .ok (.invokestatic 46, 3) := by decide +kernel
theorem dX0_copy_30 : decode cX0_copy 30 = .ok (.aload_n 1, 1) := by decide +kernel
theorem dX0_copy_31 : decode cX0_copy 31 = .ok (.getfield 18, 3) := by decide +kernel
theorem dX0_copy_34 : decode cX0_copy 34 = .ok (.iconst 0, 1) := by decide +kernel
theorem dX0_copy_35 : decode cX0_copy 35 = .ok (.aload_n 0, 1) := by decide +kernel
theorem dX0_copy_36 : decode cX0_copy 36 = .ok (.getfield 18, 3) := by decide +kernel
theorem dX0_copy_39 : decode cX0_copy 39 = .ok (.iconst 0, 1) := by decide +kernel
theorem dX0_copy_40 : decode cX0_copy 40 = .ok (.bipush 16, 2) := by decide +kernel
theorem dX0_copy_42 : decode cX0_copy 42 = .ok (.invokestatic 46, 3) := by decide +kernel
theorem dX0_copy_45 : decode cX0_copy 45 = .ok (.aload_n 1, 1) := by decide +kernel
theorem dX0_copy_46 : decode cX0_copy 46 = .ok (.getfield 21, 3) := by decide +kernel
theorem dX0_copy_49 : decode cX0_copy 49 = .ok (.iconst 0, 1) := by decide +kernel
theorem dX0_copy_50 : decode cX0_copy 50 = .ok (.aload_n 0, 1) := by decide +kernel
theorem dX0_copy_51 : decode cX0_copy 51 = .ok (.getfield 21, 3) := by decide +kernel
theorem dX0_copy_54 : decode cX0_copy 54 = .ok (.iconst 0, 1) := by decide +kernel
theorem dX0_copy_55 : decode cX0_copy 55 = .ok (.bipush 16, 2) := by decide +kernel
theorem dX0_copy_57 : decode cX0_copy 57 = .ok (.invokestatic 46, 3) := by decide +kernel
theorem dX0_copy_60 : decode cX0_copy 60 = .ok (.aload_n 1, 1) := by decide +kernel
theorem dX0_copy_61 : decode cX0_copy 61 = .ok (.getfield 24, 3) := by decide +kernel
theorem dX0_copy_64 : decode cX0_copy 64 = .ok (.iconst 0, 1) := by decide +kernel
theorem dX0_copy_65 : decode cX0_copy 65 = .ok (.aload_n 0, 1) := by decide +kernel
theorem dX0_copy_66 : decode cX0_copy 66 = .ok (.getfield 24, 3) := by decide +kernel
theorem dX0_copy_69 : decode cX0_copy 69 = .ok (.iconst 0, 1) := by decide +kernel
theorem dX0_copy_70 : decode cX0_copy 70 = .ok (.iconst 4, 1) := by decide +kernel
theorem dX0_copy_71 : decode cX0_copy 71 = .ok (.invokestatic 46, 3) := by decide +kernel
theorem dX0_copy_74 : decode cX0_copy 74 = .ok (.aload_n 1, 1) := by decide +kernel
theorem dX0_copy_75 : decode cX0_copy 75 = .ok (.getfield 27, 3) := by decide +kernel
theorem dX0_copy_78 : decode cX0_copy 78 = .ok (.iconst 0, 1) := by decide +kernel
theorem dX0_copy_79 : decode cX0_copy 79 = .ok (.aload_n 0, 1) := by decide +kernel
theorem dX0_copy_80 : decode cX0_copy 80 = .ok (.getfield 27, 3) := by decide +kernel
theorem dX0_copy_83 : decode cX0_copy 83 = .ok (.iconst 0, 1) := by decide +kernel
theorem dX0_copy_84 : decode cX0_copy 84 = .ok (.iconst 4, 1) := by decide +kernel
theorem dX0_copy_85 : decode cX0_copy 85 = .ok (.invokestatic 46, 3) := by decide +kernel
theorem dX0_copy_88 : decode cX0_copy 88 = .ok (.aload_n 1, 1) := by decide +kernel
theorem dX0_copy_89 : decode cX0_copy 89 = .ok (.getfield 30, 3) := by decide +kernel
theorem dX0_copy_92 : decode cX0_copy 92 = .ok (.iconst 0, 1) := by decide +kernel
theorem dX0_copy_93 : decode cX0_copy 93 = .ok (.aload_n 0, 1) := by decide +kernel
theorem dX0_copy_94 : decode cX0_copy 94 = .ok (.getfield 30, 3) := by decide +kernel
theorem dX0_copy_97 : decode cX0_copy 97 = .ok (.iconst 0, 1) := by decide +kernel
theorem dX0_copy_98 : decode cX0_copy 98 = .ok (.iconst 4, 1) := by decide +kernel
theorem dX0_copy_99 : decode cX0_copy 99 = .ok (.invokestatic 46, 3) := by decide +kernel
theorem dX0_copy_102 : decode cX0_copy 102 = .ok (.aload_n 0, 1) := by decide +kernel
theorem dX0_copy_103 : decode cX0_copy 103 = .ok (.aload_n 1, 1) := by decide +kernel
theorem dX0_copy_104 : decode cX0_copy 104 = .ok (.getfield 52, 3) := by decide +kernel
theorem dX0_copy_107 : decode cX0_copy 107 = .ok (.putfield 52, 3) := by decide +kernel
theorem dX0_copy_110 : decode cX0_copy 110 = .ok (.aload_n 0, 1) := by decide +kernel
theorem dX0_copy_111 : decode cX0_copy 111 = .ok (.aload_n 1, 1) := by decide +kernel
theorem dX0_copy_112 : decode cX0_copy 112 = .ok (.getfield 33, 3) := by decide +kernel
theorem dX0_copy_115 : decode cX0_copy 115 = .ok (.putfield 33, 3) := by decide +kernel
theorem dX0_copy_118 : decode cX0_copy 118 = .ok (.aload_n 0, 1) := by decide +kernel
theorem dX0_copy_119 : decode cX0_copy 119 = .ok (.aload_n 1, 1) := by decide +kernel
theorem dX0_copy_120 : decode cX0_copy 120 = .ok (.getfield 55, 3) := by decide +kernel
theorem dX0_copy_123 : decode cX0_copy 123 = .ok (.putfield 55, 3) := by decide +kernel
theorem dX0_copy_126 : decode cX0_copy 126 = .ok (.aload_n 0, 1) := by decide +kernel
theorem dX0_copy_127 : decode cX0_copy 127 = .ok (.aload_n 1, 1) := by decide +kernel
theorem dX0_copy_128 : decode cX0_copy 128 = .ok (.getfield 39, 3) := by decide +kernel
theorem dX0_copy_131 : decode cX0_copy 131 = .ok (.putfield 39, 3) := by decide +kernel
theorem dX0_copy_134 : decode cX0_copy 134 = .ok (.aload_n 0, 1) := by decide +kernel
theorem dX0_copy_135 : decode cX0_copy 135 = .ok (.aload_n 1, 1) := by decide +kernel
theorem dX0_copy_136 : decode cX0_copy 136 = .ok (.getfield 43, 3) := by decide +kernel
theorem dX0_copy_139 : decode cX0_copy 139 = .ok (.putfield 43, 3) := by decide +kernel
theorem dX0_copy_142 : decode cX0_copy 142 = .ok (.return_, 1) := by decide +kernel
set_option maxRecDepth 20000 in
theorem ggX0_beginAnew_X4_store : GoodIn wsX0_beginAnew wsX4_store := goodIn_r _ [11] (by decide +kernel) (by decide +kernel)
set_option maxRecDepth 20000 in
theorem gX0_beginAnew_X4_store_n58 : GoodIn wsX0_beginAnew (wsX4_store) := ggX0_beginAnew_X4_store
theorem dX0_beginAnew_0 : decode cX0_beginAnew 0 = .ok (.iconst 0, 1) := by decide +kernel
theorem dX0_beginAnew_1 : decode cX0_beginAnew 1 = .ok (.istore_n 3, 1) := by decide +kernel
theorem dX0_beginAnew_2 : decode cX0_beginAnew 2 = .ok (.iload_n 3, 1) := by decide +kernel
theorem dX0_beginAnew_3 : decode cX0_beginAnew 3 = .ok (.iconst 4, 1) := by decide +kernel
theorem dX0_beginAnew_4 : decode cX0_beginAnew 4 = .ok (.if_icmp .ge 27, 3) := by decide +kernel
theorem dX0_beginAnew_7 : decode cX0_beginAnew 7 = .ok (.aload_n 0, 1) := by decide +kernel
theorem dX0_beginAnew_8 : decode cX0_beginAnew 8 = .ok (.getfield 24, 3) := by decide +kernel
theorem dX0_beginAnew_11 : decode cX0_beginAnew 11 = .ok (.iload_n 3, 1) := by decide +kernel
theorem dX0_beginAnew_12 : decode cX0_beginAnew 12 = .ok (.iconst 0, 1) := by decide +kernel
theorem dX0_beginAnew_13 : decode cX0_beginAnew 13 = .ok (.invokestatic 58, 3) := by decide +kernel
theorem dX0_beginAnew_16 : decode cX0_beginAnew 16 = .ok (.aload_n 0, 1) := by decide +kernel
theorem dX0_beginAnew_17 : decode cX0_beginAnew 17 = .ok (.getfield 27, 3) := by decide +kernel
theorem dX0_beginAnew_20 : decode cX0_beginAnew 20 = .ok (.iload_n 3, 1) := by decide +kernel
theorem dX0_beginAnew_21 : decode cX0_beginAnew 21 = .ok (.iconst 0, 1) := by decide +kernel
theorem dX0_beginAnew_22 : decode cX0_beginAnew 22 = .ok (.invokestatic 58, 3) := by decide +kernel
theorem dX0_beginAnew_25 : decode cX0_beginAnew 25 = .ok (.iinc 3 1, 3) := by decide +kernel
theorem dX0_beginAnew_28 : decode cX0_beginAnew 28 = .ok (.goto (-26), 3) := by decide +kernel
theorem dX0_beginAnew_31 : decode cX0_beginAnew 31 = .ok (.aload_n 0, 1) := by decide +kernel
theorem dX0_beginAnew_32 : decode cX0_beginAnew 32 = .ok (.iconst 0, 1) := by decide +kernel
theorem dX0_beginAnew_33 : decode cX0_beginAnew 33 = .ok (.putfield 52, 3) := by decide +kernel
theorem dX0_beginAnew_36 : decode cX0_beginAnew 36 = .ok (.aload_n 0, 1) := by decide +kernel
theorem dX0_beginAnew_37 : decode cX0_beginAnew 37 = .ok (.iconst (-1), 1) := by decide +kernel
theorem dX0_beginAnew_38 : decode cX0_beginAnew 38 = .ok (.putfield 33, 3) := by decide +kernel
theorem dX0_beginAnew_41 : decode cX0_beginAnew 41 = .ok (.aload_n 0, 1) := by decide +kernel
theorem dX0_beginAnew_42 : decode cX0_beginAnew 42 = .ok (.lconst 0, 1) := by decide +kernel
theorem dX0_beginAnew_43 : decode cX0_beginAnew 43 = .ok (.putfield 55, 3) := by decide +kernel
theorem dX0_beginAnew_46 : decode cX0_beginAnew 46 = .ok (.aload_n 0, 1) := by decide +kernel
theorem dX0_beginAnew_47 : decode cX0_beginAnew 47 = .ok (.ldc2_w 37, 3) := by decide +kernel
theorem dX0_beginAnew_50 : decode cX0_beginAnew 50 = .ok (.putfield 39, 3) := by decide +kernel
theorem dX0_beginAnew_53 : decode cX0_beginAnew 53 = .ok (.aload_n 0, 1) := by decide +kernel
theorem dX0_beginAnew_54 : decode cX0_beginAnew 54 = .ok (.lload_n 1, 1) := by decide +kernel
theorem dX0_beginAnew_55 : decode cX0_beginAnew 55 = .ok (.putfield 43, 3) := by decide +kernel
theorem dX0_beginAnew_58 : decode cX0_beginAnew 58 = .ok (.return_, 1) := by decide +kernel
set_option maxRecDepth 20000 in
theorem ggX0_allPulls_X4_at : GoodIn wsX0_allPulls wsX4_at := goodIn_r _ [4] (by decide +kernel) (by decide +kernel)
set_option maxRecDepth 20000 in
theorem gX0_allPulls_X4_at_n62 : GoodIn wsX0_allPulls (wsX4_at) := ggX0_allPulls_X4_at
theorem dX0_allPulls_0 : decode cX0_allPulls 0 = .ok (.iconst 0, 1) := by decide +kernel
theorem dX0_allPulls_1 : decode cX0_allPulls 1 = .ok (.istore_n 1, 1) := by decide +kernel
theorem dX0_allPulls_2 : decode cX0_allPulls 2 = .ok (.iconst 0, 1) := by decide +kernel
theorem dX0_allPulls_3 : decode cX0_allPulls 3 = .ok (.istore_n 2, 1) := by decide +kernel
theorem dX0_allPulls_4 : decode cX0_allPulls 4 = .ok (.iload_n 2, 1) := by decide +kernel
theorem dX0_allPulls_5 : decode cX0_allPulls 5 = .ok (.iconst 4, 1) := by decide +kernel
theorem dX0_allPulls_6 : decode cX0_allPulls 6 = .ok (.if_icmp .ge 20, 3) := by decide +kernel
theorem dX0_allPulls_9 : decode cX0_allPulls 9 = .ok (.iload_n 1, 1) := by decide +kernel
theorem dX0_allPulls_10 : decode cX0_allPulls 10 = .ok (.aload_n 0, 1) := by decide +kernel
theorem dX0_allPulls_11 : decode cX0_allPulls 11 = .ok (.getfield 27, 3) := by decide +kernel
theorem dX0_allPulls_14 : decode cX0_allPulls 14 = .ok (.iload_n 2, 1) := by decide +kernel
theorem dX0_allPulls_15 : decode cX0_allPulls 15 = .ok (.invokestatic 62, 3) := by decide +kernel
theorem dX0_allPulls_18 : decode cX0_allPulls 18 = .ok (.iadd, 1) := by decide +kernel
theorem dX0_allPulls_19 : decode cX0_allPulls 19 = .ok (.istore_n 1, 1) := by decide +kernel
theorem dX0_allPulls_20 : decode cX0_allPulls 20 = .ok (.iinc 2 1, 3) := by decide +kernel
theorem dX0_allPulls_23 : decode cX0_allPulls 23 = .ok (.goto (-19), 3) := by decide +kernel
theorem dX0_allPulls_26 : decode cX0_allPulls 26 = .ok (.iload_n 1, 1) := by decide +kernel
theorem dX0_allPulls_27 : decode cX0_allPulls 27 = .ok (.ireturn, 1) := by decide +kernel
theorem dX0_wouldChange_0 : decode cX0_wouldChange 0 = .ok (.aload_n 0, 1) := by decide +kernel
theorem dX0_wouldChange_1 : decode cX0_wouldChange 1 = .ok (.getfield 33, 3) := by decide +kernel
theorem dX0_wouldChange_4 : decode cX0_wouldChange 4 = .ok (.iconst (-1), 1) := by decide +kernel
theorem dX0_wouldChange_5 : decode cX0_wouldChange 5 = .ok (.if_icmp .eq 15, 3) := by decide +kernel
theorem dX0_wouldChange_8 : decode cX0_wouldChange 8 = .ok (.aload_n 0, 1) := by decide +kernel
theorem dX0_wouldChange_9 : decode cX0_wouldChange 9 = .ok (.getfield 33, 3) := by decide +kernel
theorem dX0_wouldChange_12 : decode cX0_wouldChange 12 = .ok (.iload_n 1, 1) := by decide +kernel
theorem dX0_wouldChange_13 : decode cX0_wouldChange 13 = .ok (.if_icmp .eq 7, 3) := by decide +kernel
theorem dX0_wouldChange_16 : decode cX0_wouldChange 16 = .ok (.iconst 1, 1) := by decide +kernel
theorem dX0_wouldChange_17 : decode cX0_wouldChange 17 = .ok (.goto 4, 3) := by decide +kernel
theorem dX0_wouldChange_20 : decode cX0_wouldChange 20 = .ok (.iconst 0, 1) := by decide +kernel
theorem dX0_wouldChange_21 : decode cX0_wouldChange 21 = .ok (.ireturn, 1) := by decide +kernel
set_option maxRecDepth 20000 in
theorem ggX0_costOf_X0_wouldChange : GoodIn wsX0_costOf wsX0_wouldChange := goodIn_r _ [7, 8, 12, 13, 14, 15, 16, 17, 18, 19, 20, 21, 22, 23] (by decide +kernel) (by decide +kernel)
set_option maxRecDepth 20000 in
theorem gX0_costOf_X0_wouldChange : GoodIn wsX0_costOf (wsV RX0 66 RX0 yX0_wouldChange wsX0_wouldChange) := goodIn_app (goodIn_of _ (by decide +kernel)) ggX0_costOf_X0_wouldChange
set_option maxRecDepth 20000 in
theorem ggX0_costOf_X4_at : GoodIn wsX0_costOf wsX4_at := goodIn_r _ [11] (by decide +kernel) (by decide +kernel)
set_option maxRecDepth 20000 in
theorem gX0_costOf_X4_at_n62 : GoodIn wsX0_costOf (wsX4_at) := ggX0_costOf_X4_at
theorem dX0_costOf_0 : decode cX0_costOf 0 = .ok (.aload_n 0, 1) := by decide +kernel
theorem dX0_costOf_1 : decode cX0_costOf 1 = .ok (.iload_n 1, 1) := by decide +kernel
theorem dX0_costOf_2 : decode cX0_costOf 2 = .ok (.invokevirtual 66, 3) := by decide +kernel
theorem dX0_costOf_5 : decode cX0_costOf 5 = .ok (.ifCond .ne 5, 3) := by decide +kernel
theorem dX0_costOf_8 : decode cX0_costOf 8 = .ok (.lconst 0, 1) := by decide +kernel
theorem dX0_costOf_9 : decode cX0_costOf 9 = .ok (.lreturn, 1) := by decide +kernel
theorem dX0_costOf_10 : decode cX0_costOf 10 = .ok (.aload_n 0, 1) := by decide +kernel
theorem dX0_costOf_11 : decode cX0_costOf 11 = .ok (.getfield 30, 3) := by decide +kernel
theorem dX0_costOf_14 : decode cX0_costOf 14 = .ok (.iconst 2, 1) := by decide +kernel
theorem dX0_costOf_15 : decode cX0_costOf 15 = .ok (.invokestatic 62, 3) := by decide +kernel
theorem dX0_costOf_18 : decode cX0_costOf 18 = .ok (.i2l, 1) := by decide +kernel
theorem dX0_costOf_19 : decode cX0_costOf 19 = .ok (.lstore_n 3, 1) := by decide +kernel
theorem dX0_costOf_20 : decode cX0_costOf 20 = .ok (.iload_n 2, 1) := by decide +kernel
theorem dX0_costOf_21 : decode cX0_costOf 21 = .ok (.ifCond .ne 24, 3) := by decide +kernel
theorem dX0_costOf_24 : decode cX0_costOf 24 = .ok (.ldc2_w 70, 3) := by decide +kernel
theorem dX0_costOf_27 : decode cX0_costOf 27 = .ok (.lload_n 3, 1) := by decide +kernel
theorem dX0_costOf_28 : decode cX0_costOf 28 = .ok (.lmul, 1) := by decide +kernel
theorem dX0_costOf_29 : decode cX0_costOf 29 = .ok (.bipush 100, 2) := by decide +kernel
theorem dX0_costOf_31 : decode cX0_costOf 31 = .ok (.aload_n 0, 1) := by decide +kernel
theorem dX0_costOf_32 : decode cX0_costOf 32 = .ok (.getfield 30, 3) := by decide +kernel
theorem dX0_costOf_35 : decode cX0_costOf 35 = .ok (.iconst 0, 1) := by decide +kernel
theorem dX0_costOf_36 : decode cX0_costOf 36 = .ok (.invokestatic 62, 3) := by decide +kernel
theorem dX0_costOf_39 : decode cX0_costOf 39 = .ok (.isub, 1) := by decide +kernel
theorem dX0_costOf_40 : decode cX0_costOf 40 = .ok (.i2l, 1) := by decide +kernel
theorem dX0_costOf_41 : decode cX0_costOf 41 = .ok (.lmul, 1) := by decide +kernel
theorem dX0_costOf_42 : decode cX0_costOf 42 = .ok (.goto 4, 3) := by decide +kernel
theorem dX0_costOf_45 : decode cX0_costOf 45 = .ok (.lload_n 3, 1) := by decide +kernel
theorem dX0_costOf_46 : decode cX0_costOf 46 = .ok (.lreturn, 1) := by decide +kernel
set_option maxRecDepth 20000 in
theorem ggX0_pullOnce_X4_at : GoodIn wsX0_pullOnce wsX4_at := goodIn_r _ [14] (by decide +kernel) (by decide +kernel)
set_option maxRecDepth 20000 in
theorem gX0_pullOnce_X4_at_n62 : GoodIn wsX0_pullOnce (wsX4_at) := ggX0_pullOnce_X4_at
set_option maxRecDepth 20000 in
theorem ggX0_pullOnce_X4_slotOf : GoodIn wsX0_pullOnce wsX4_slotOf := goodIn_r _ [16] (by decide +kernel) (by decide +kernel)
set_option maxRecDepth 20000 in
theorem gX0_pullOnce_X4_slotOf_n74 : GoodIn wsX0_pullOnce (wsX4_slotOf) := ggX0_pullOnce_X4_slotOf
set_option maxRecDepth 20000 in
theorem ggX0_pullOnce_X0_wouldChange : GoodIn wsX0_pullOnce wsX0_wouldChange := goodIn_r _ [21, 10, 38, 39, 40, 41, 42, 43, 44, 45, 46, 47, 48, 49] (by decide +kernel) (by decide +kernel)
set_option maxRecDepth 20000 in
theorem gX0_pullOnce_X0_wouldChange : GoodIn wsX0_pullOnce (wsV RX0 66 RX0 yX0_wouldChange wsX0_wouldChange) := goodIn_app (goodIn_of _ (by decide +kernel)) ggX0_pullOnce_X0_wouldChange
set_option maxRecDepth 20000 in
theorem ggX0_pullOnce_J9_floorDiv_f86c9 : GoodIn wsX0_pullOnce wsJ9_floorDiv_f86c9 := goodIn_r _ [25] (by decide +kernel) (by decide +kernel)
set_option maxRecDepth 20000 in
theorem gX0_pullOnce_J9_floorDiv_f86c9 : GoodIn wsX0_pullOnce (va_wsS RX0 78 yJ9_floorDiv_f86c9 wsJ9_floorDiv_f86c9) := goodIn_app (goodIn_of _ (by decide +kernel)) ggX0_pullOnce_J9_floorDiv_f86c9
set_option maxRecDepth 20000 in
theorem ggX0_pullOnce_X4_store : GoodIn wsX0_pullOnce wsX4_store := goodIn_r _ [27] (by decide +kernel) (by decide +kernel)
set_option maxRecDepth 20000 in
theorem gX0_pullOnce_X4_store_n58 : GoodIn wsX0_pullOnce (wsX4_store) := ggX0_pullOnce_X4_store
set_option maxRecDepth 20000 in
theorem ggX0_pullOnce_X0_goOn : GoodIn wsX0_pullOnce wsX0_goOn := goodIn_r _ [31, 32, 33, 34, 3, 35, 36, 37, 12, 13, 14, 15, 16, 26, 27, 38, 39, 40, 41, 42, 43, 44, 45, 46, 47, 48, 49] (by decide +kernel) (by decide +kernel)
set_option maxRecDepth 20000 in
theorem gX0_pullOnce_X0_goOn : GoodIn wsX0_pullOnce (wsV RX0 86 RX0 yX0_goOn wsX0_goOn) := goodIn_app (goodIn_of _ (by decide +kernel)) ggX0_pullOnce_X0_goOn
theorem dX0_pullOnce_0 : decode cX0_pullOnce 0 = .ok (.ldc2_w 72, 3) := by decide +kernel
theorem dX0_pullOnce_3 : decode cX0_pullOnce 3 = .ok (.aload_n 0, 1) := by decide +kernel
theorem dX0_pullOnce_4 : decode cX0_pullOnce 4 = .ok (.getfield 9, 3) := by decide +kernel
theorem dX0_pullOnce_7 : decode cX0_pullOnce 7 = .ok (.iload_n 1, 1) := by decide +kernel
theorem dX0_pullOnce_8 : decode cX0_pullOnce 8 = .ok (.aload_n 0, 1) := by decide +kernel
theorem dX0_pullOnce_9 : decode cX0_pullOnce 9 = .ok (.getfield 24, 3) := by decide +kernel
theorem dX0_pullOnce_12 : decode cX0_pullOnce 12 = .ok (.iload_n 1, 1) := by decide +kernel
theorem dX0_pullOnce_13 : decode cX0_pullOnce 13 = .ok (.invokestatic 62, 3) := by decide +kernel
theorem dX0_pullOnce_16 : decode cX0_pullOnce 16 = .ok (.invokestatic 74, 3) := by decide +kernel
theorem dX0_pullOnce_19 : decode cX0_pullOnce 19 = .ok (.invokestatic 62, 3) := by decide +kernel
theorem dX0_pullOnce_22 : decode cX0_pullOnce 22 = .ok (.i2l, 1) := by decide +kernel
theorem dX0_pullOnce_23 : decode cX0_pullOnce 23 = .ok (.lmul, 1) := by decide +kernel
theorem dX0_pullOnce_24 : decode cX0_pullOnce 24 = .ok (.lstore_n 2, 1) := by decide +kernel
theorem dX0_pullOnce_25 : decode cX0_pullOnce 25 = .ok (.aload_n 0, 1) := by decide +kernel
theorem dX0_pullOnce_26 : decode cX0_pullOnce 26 = .ok (.iload_n 1, 1) := by decide +kernel
theorem dX0_pullOnce_27 : decode cX0_pullOnce 27 = .ok (.invokevirtual 66, 3) := by decide +kernel
theorem dX0_pullOnce_30 : decode cX0_pullOnce 30 = .ok (.ifCond .eq 29, 3) := by decide +kernel
theorem dX0_pullOnce_33 : decode cX0_pullOnce 33 = .ok (.lload_n 2, 1) := by decide +kernel
theorem dX0_pullOnce_34 : decode cX0_pullOnce 34 = .ok (.ldc2_w 72, 3) := by decide +kernel
theorem dX0_pullOnce_37 : decode cX0_pullOnce 37 = .ok (.aload_n 0, 1) := by decide +kernel
theorem dX0_pullOnce_38 : decode cX0_pullOnce 38 = .ok (.getfield 30, 3) := by decide +kernel
theorem dX0_pullOnce_41 : decode cX0_pullOnce 41 = .ok (.iconst 2, 1) := by decide +kernel
theorem dX0_pullOnce_42 : decode cX0_pullOnce 42 = .ok (.invokestatic 62, 3) := by decide +kernel
theorem dX0_pullOnce_45 : decode cX0_pullOnce 45 = .ok (.i2l, 1) := by decide +kernel
theorem dX0_pullOnce_46 : decode cX0_pullOnce 46 = .ok (.lmul, 1) := by decide +kernel
theorem dX0_pullOnce_47 : decode cX0_pullOnce 47 = .ok (.lsub, 1) := by decide +kernel
theorem dX0_pullOnce_48 : decode cX0_pullOnce 48 = .ok (.lstore_n 2, 1) := by decide +kernel
theorem dX0_pullOnce_49 : decode cX0_pullOnce 49 = .ok (.aload_n 0, 1) := by decide +kernel
theorem dX0_pullOnce_50 : decode cX0_pullOnce 50 = .ok (.dup, 1) := by decide +kernel
theorem dX0_pullOnce_51 : decode cX0_pullOnce 51 = .ok (.getfield 52, 3) := by decide +kernel
theorem dX0_pullOnce_54 : decode cX0_pullOnce 54 = .ok (.iconst 1, 1) := by decide +kernel
theorem dX0_pullOnce_55 : decode cX0_pullOnce 55 = .ok (.iadd, 1) := by decide +kernel
theorem dX0_pullOnce_56 : decode cX0_pullOnce 56 = .ok (.putfield 52, 3) := by decide +kernel
theorem dX0_pullOnce_59 : decode cX0_pullOnce 59 = .ok (.aload_n 0, 1) := by decide +kernel
theorem dX0_pullOnce_60 : decode cX0_pullOnce 60 = .ok (.dup, 1) := by decide +kernel
theorem dX0_pullOnce_61 : decode cX0_pullOnce 61 = .ok (.getfield 55, 3) := by decide +kernel
theorem dX0_pullOnce_64 : decode cX0_pullOnce 64 = .ok (.lload_n 2, 1) := by decide +kernel
theorem dX0_pullOnce_65 : decode cX0_pullOnce 65 = .ok (.aload_n 0, 1) := by decide +kernel
theorem dX0_pullOnce_66 : decode cX0_pullOnce 66 = .ok (.getfield 39, 3) := by decide +kernel
theorem dX0_pullOnce_69 : decode cX0_pullOnce 69 = .ok (.lmul, 1) := by decide +kernel
theorem dX0_pullOnce_70 : decode cX0_pullOnce 70 = .ok (.ldc2_w 37, 3) := by decide +kernel
theorem dX0_pullOnce_73 : decode cX0_pullOnce 73 = .ok (.invokestatic 78, 3) := by decide +kernel
theorem dX0_pullOnce_76 : decode cX0_pullOnce 76 = .ok (.ladd, 1) := by decide +kernel
theorem dX0_pullOnce_77 : decode cX0_pullOnce 77 = .ok (.putfield 55, 3) := by decide +kernel
theorem dX0_pullOnce_80 : decode cX0_pullOnce 80 = .ok (.aload_n 0, 1) := by decide +kernel
theorem dX0_pullOnce_81 : decode cX0_pullOnce 81 = .ok (.aload_n 0, 1) := by decide +kernel
theorem dX0_pullOnce_82 : decode cX0_pullOnce 82 = .ok (.getfield 39, 3) := by decide +kernel
theorem dX0_pullOnce_85 : decode cX0_pullOnce 85 = .ok (.aload_n 0, 1) := by decide +kernel
theorem dX0_pullOnce_86 : decode cX0_pullOnce 86 = .ok (.getfield 30, 3) := by decide +kernel
theorem dX0_pullOnce_89 : decode cX0_pullOnce 89 = .ok (.iconst 0, 1) := by decide +kernel
theorem dX0_pullOnce_90 : decode cX0_pullOnce 90 = .ok (.invokestatic 62, 3) := by decide +kernel
theorem dX0_pullOnce_93 : decode cX0_pullOnce 93 = .ok (.i2l, 1) := by decide +kernel
theorem dX0_pullOnce_94 : decode cX0_pullOnce 94 = .ok (.lmul, 1) := by decide +kernel
theorem dX0_pullOnce_95 : decode cX0_pullOnce 95 = .ok (.ldc2_w 84, 3) := by decide +kernel
theorem dX0_pullOnce_98 : decode cX0_pullOnce 98 = .ok (.invokestatic 78, 3) := by decide +kernel
theorem dX0_pullOnce_101 : decode cX0_pullOnce 101 = .ok (.putfield 39, 3) := by decide +kernel
theorem dX0_pullOnce_104 : decode cX0_pullOnce 104 = .ok (.aload_n 0, 1) := by decide +kernel
theorem dX0_pullOnce_105 : decode cX0_pullOnce 105 = .ok (.iload_n 1, 1) := by decide +kernel
theorem dX0_pullOnce_106 : decode cX0_pullOnce 106 = .ok (.putfield 33, 3) := by decide +kernel
theorem dX0_pullOnce_109 : decode cX0_pullOnce 109 = .ok (.aload_n 0, 1) := by decide +kernel
theorem dX0_pullOnce_110 : decode cX0_pullOnce 110 = .ok (.getfield 27, 3) := by decide +kernel
theorem dX0_pullOnce_113 : decode cX0_pullOnce 113 = .ok (.iload_n 1, 1) := by decide +kernel
theorem dX0_pullOnce_114 : decode cX0_pullOnce 114 = .ok (.aload_n 0, 1) := by decide +kernel
theorem dX0_pullOnce_115 : decode cX0_pullOnce 115 = .ok (.getfield 27, 3) := by decide +kernel
theorem dX0_pullOnce_118 : decode cX0_pullOnce 118 = .ok (.iload_n 1, 1) := by decide +kernel
theorem dX0_pullOnce_119 : decode cX0_pullOnce 119 = .ok (.invokestatic 62, 3) := by decide +kernel
theorem dX0_pullOnce_122 : decode cX0_pullOnce 122 = .ok (.iconst 1, 1) := by decide +kernel
theorem dX0_pullOnce_123 : decode cX0_pullOnce 123 = .ok (.iadd, 1) := by decide +kernel
theorem dX0_pullOnce_124 : decode cX0_pullOnce 124 = .ok (.invokestatic 58, 3) := by decide +kernel
theorem dX0_pullOnce_127 : decode cX0_pullOnce 127 = .ok (.aload_n 0, 1) := by decide +kernel
theorem dX0_pullOnce_128 : decode cX0_pullOnce 128 = .ok (.iload_n 1, 1) := by decide +kernel
theorem dX0_pullOnce_129 : decode cX0_pullOnce 129 = .ok (.invokevirtual 86, 3) := by decide +kernel
theorem dX0_pullOnce_132 : decode cX0_pullOnce 132 = .ok (.aload_n 0, 1) := by decide +kernel
theorem dX0_pullOnce_133 : decode cX0_pullOnce 133 = .ok (.getfield 30, 3) := by decide +kernel
theorem dX0_pullOnce_136 : decode cX0_pullOnce 136 = .ok (.iconst 3, 1) := by decide +kernel
theorem dX0_pullOnce_137 : decode cX0_pullOnce 137 = .ok (.invokestatic 62, 3) := by decide +kernel
theorem dX0_pullOnce_140 : decode cX0_pullOnce 140 = .ok (.iconst 1, 1) := by decide +kernel
theorem dX0_pullOnce_141 : decode cX0_pullOnce 141 = .ok (.if_icmp .ne 30, 3) := by decide +kernel
theorem dX0_pullOnce_144 : decode cX0_pullOnce 144 = .ok (.iconst 0, 1) := by decide +kernel
theorem dX0_pullOnce_145 : decode cX0_pullOnce 145 = .ok (.istore 4, 2) := by decide +kernel
theorem dX0_pullOnce_147 : decode cX0_pullOnce 147 = .ok (.iload 4, 2) := by decide +kernel
theorem dX0_pullOnce_149 : decode cX0_pullOnce 149 = .ok (.iconst 4, 1) := by decide +kernel
theorem dX0_pullOnce_150 : decode cX0_pullOnce 150 = .ok (.if_icmp .ge 21, 3) := by decide +kernel
theorem dX0_pullOnce_153 : decode cX0_pullOnce 153 = .ok (.iload 4, 2) := by decide +kernel
theorem dX0_pullOnce_155 : decode cX0_pullOnce 155 = .ok (.iload_n 1, 1) := by decide +kernel
theorem dX0_pullOnce_156 : decode cX0_pullOnce 156 = .ok (.if_icmp .eq 9, 3) := by decide +kernel
theorem dX0_pullOnce_159 : decode cX0_pullOnce 159 = .ok (.aload_n 0, 1) := by decide +kernel
theorem dX0_pullOnce_160 : decode cX0_pullOnce 160 = .ok (.iload 4, 2) := by decide +kernel
theorem dX0_pullOnce_162 : decode cX0_pullOnce 162 = .ok (.invokevirtual 86, 3) := by decide +kernel
theorem dX0_pullOnce_165 : decode cX0_pullOnce 165 = .ok (.iinc 4 1, 3) := by decide +kernel
theorem dX0_pullOnce_168 : decode cX0_pullOnce 168 = .ok (.goto (-21), 3) := by decide +kernel
theorem dX0_pullOnce_171 : decode cX0_pullOnce 171 = .ok (.return_, 1) := by decide +kernel
set_option maxRecDepth 20000 in
theorem ggX0_goOn_X4_at : GoodIn wsX0_goOn wsX4_at := goodIn_r _ [10] (by decide +kernel) (by decide +kernel)
set_option maxRecDepth 20000 in
theorem gX0_goOn_X4_at_n62 : GoodIn wsX0_goOn (wsX4_at) := ggX0_goOn_X4_at
set_option maxRecDepth 20000 in
theorem ggX0_goOn_X4_slotOf : GoodIn wsX0_goOn wsX4_slotOf := goodIn_r _ [12] (by decide +kernel) (by decide +kernel)
set_option maxRecDepth 20000 in
theorem gX0_goOn_X4_slotOf_n74 : GoodIn wsX0_goOn (wsX4_slotOf) := ggX0_goOn_X4_slotOf
set_option maxRecDepth 20000 in
theorem ggX0_goOn_X4_store : GoodIn wsX0_goOn wsX4_store := goodIn_r _ [14] (by decide +kernel) (by decide +kernel)
set_option maxRecDepth 20000 in
theorem gX0_goOn_X4_store_n58 : GoodIn wsX0_goOn (wsX4_store) := ggX0_goOn_X4_store
theorem dX0_goOn_0 : decode cX0_goOn 0 = .ok (.aload_n 0, 1) := by decide +kernel
theorem dX0_goOn_1 : decode cX0_goOn 1 = .ok (.aload_n 0, 1) := by decide +kernel
theorem dX0_goOn_2 : decode cX0_goOn 2 = .ok (.getfield 43, 3) := by decide +kernel
theorem dX0_goOn_5 : decode cX0_goOn 5 = .ok (.ldc2_w 90, 3) := by decide +kernel
theorem dX0_goOn_8 : decode cX0_goOn 8 = .ok (.lmul, 1) := by decide +kernel
theorem dX0_goOn_9 : decode cX0_goOn 9 = .ok (.ldc2_w 92, 3) := by decide +kernel
theorem dX0_goOn_12 : decode cX0_goOn 12 = .ok (.ladd, 1) := by decide +kernel
theorem dX0_goOn_13 : decode cX0_goOn 13 = .ok (.putfield 43, 3) := by decide +kernel
theorem dX0_goOn_16 : decode cX0_goOn 16 = .ok (.aload_n 0, 1) := by decide +kernel
theorem dX0_goOn_17 : decode cX0_goOn 17 = .ok (.getfield 43, 3) := by decide +kernel
theorem dX0_goOn_20 : decode cX0_goOn 20 = .ok (.bipush 61, 2) := by decide +kernel
theorem dX0_goOn_22 : decode cX0_goOn 22 = .ok (.lushr, 1) := by decide +kernel
theorem dX0_goOn_23 : decode cX0_goOn 23 = .ok (.l2i, 1) := by decide +kernel
theorem dX0_goOn_24 : decode cX0_goOn 24 = .ok (.istore_n 2, 1) := by decide +kernel
theorem dX0_goOn_25 : decode cX0_goOn 25 = .ok (.iload_n 1, 1) := by decide +kernel
theorem dX0_goOn_26 : decode cX0_goOn 26 = .ok (.aload_n 0, 1) := by decide +kernel
theorem dX0_goOn_27 : decode cX0_goOn 27 = .ok (.getfield 24, 3) := by decide +kernel
theorem dX0_goOn_30 : decode cX0_goOn 30 = .ok (.iload_n 1, 1) := by decide +kernel
theorem dX0_goOn_31 : decode cX0_goOn 31 = .ok (.invokestatic 62, 3) := by decide +kernel
theorem dX0_goOn_34 : decode cX0_goOn 34 = .ok (.invokestatic 74, 3) := by decide +kernel
theorem dX0_goOn_37 : decode cX0_goOn 37 = .ok (.istore_n 3, 1) := by decide +kernel
theorem dX0_goOn_38 : decode cX0_goOn 38 = .ok (.aload_n 0, 1) := by decide +kernel
theorem dX0_goOn_39 : decode cX0_goOn 39 = .ok (.getfield 24, 3) := by decide +kernel
theorem dX0_goOn_42 : decode cX0_goOn 42 = .ok (.iload_n 1, 1) := by decide +kernel
theorem dX0_goOn_43 : decode cX0_goOn 43 = .ok (.iload_n 2, 1) := by decide +kernel
theorem dX0_goOn_44 : decode cX0_goOn 44 = .ok (.aload_n 0, 1) := by decide +kernel
theorem dX0_goOn_45 : decode cX0_goOn 45 = .ok (.getfield 21, 3) := by decide +kernel
theorem dX0_goOn_48 : decode cX0_goOn 48 = .ok (.iload_n 3, 1) := by decide +kernel
theorem dX0_goOn_49 : decode cX0_goOn 49 = .ok (.invokestatic 62, 3) := by decide +kernel
theorem dX0_goOn_52 : decode cX0_goOn 52 = .ok (.if_icmp .ge 14, 3) := by decide +kernel
theorem dX0_goOn_55 : decode cX0_goOn 55 = .ok (.aload_n 0, 1) := by decide +kernel
theorem dX0_goOn_56 : decode cX0_goOn 56 = .ok (.getfield 15, 3) := by decide +kernel
theorem dX0_goOn_59 : decode cX0_goOn 59 = .ok (.iload_n 3, 1) := by decide +kernel
theorem dX0_goOn_60 : decode cX0_goOn 60 = .ok (.invokestatic 62, 3) := by decide +kernel
theorem dX0_goOn_63 : decode cX0_goOn 63 = .ok (.goto 11, 3) := by decide +kernel
theorem dX0_goOn_66 : decode cX0_goOn 66 = .ok (.aload_n 0, 1) := by decide +kernel
theorem dX0_goOn_67 : decode cX0_goOn 67 = .ok (.getfield 18, 3) := by decide +kernel
theorem dX0_goOn_70 : decode cX0_goOn 70 = .ok (.iload_n 3, 1) := by decide +kernel
theorem dX0_goOn_71 : decode cX0_goOn 71 = .ok (.invokestatic 62, 3) := by decide +kernel
theorem dX0_goOn_74 : decode cX0_goOn 74 = .ok (.invokestatic 58, 3) := by decide +kernel
theorem dX0_goOn_77 : decode cX0_goOn 77 = .ok (.return_, 1) := by decide +kernel
set_option maxRecDepth 20000 in
theorem ggX1_init_X0_init : GoodIn wsX1_init wsX0_init := goodIn_r _ [10, 11, 2, 3, 12, 13, 14, 15, 16, 17, 18, 19, 20, 21, 22, 23, 26, 27, 28, 29, 30, 31, 32, 33, 34, 35, 36, 37] (by decide +kernel) (by decide +kernel)
set_option maxRecDepth 20000 in
theorem gX1_init_X0_init : GoodIn wsX1_init (wsX0_init) := ggX1_init_X0_init
theorem dX1_init_0 : decode cX1_init 0 = .ok (.aload_n 0, 1) := by decide +kernel
theorem dX1_init_1 : decode cX1_init 1 = .ok (.invokespecial 3, 3) := by decide +kernel
theorem dX1_init_4 : decode cX1_init 4 = .ok (.aload_n 0, 1) := by decide +kernel
theorem dX1_init_5 : decode cX1_init 5 = .ok (.bipush 6, 2) := by decide +kernel
theorem dX1_init_7 : decode cX1_init 7 = .ok (.anewarray 9, 3) := by decide +kernel
theorem dX1_init_10 : decode cX1_init 10 = .ok (.putfield 11, 3) := by decide +kernel
theorem dX1_init_13 : decode cX1_init 13 = .ok (.iconst 0, 1) := by decide +kernel
theorem dX1_init_14 : decode cX1_init 14 = .ok (.istore_n 1, 1) := by decide +kernel
theorem dX1_init_15 : decode cX1_init 15 = .ok (.iload_n 1, 1) := by decide +kernel
theorem dX1_init_16 : decode cX1_init 16 = .ok (.aload_n 0, 1) := by decide +kernel
theorem dX1_init_17 : decode cX1_init 17 = .ok (.getfield 11, 3) := by decide +kernel
theorem dX1_init_20 : decode cX1_init 20 = .ok (.arraylength, 1) := by decide +kernel
theorem dX1_init_21 : decode cX1_init 21 = .ok (.if_icmp .ge 22, 3) := by decide +kernel
theorem dX1_init_24 : decode cX1_init 24 = .ok (.aload_n 0, 1) := by decide +kernel
theorem dX1_init_25 : decode cX1_init 25 = .ok (.getfield 11, 3) := by decide +kernel
theorem dX1_init_28 : decode cX1_init 28 = .ok (.iload_n 1, 1) := by decide +kernel
theorem dX1_init_29 : decode cX1_init 29 = .ok (.new 9, 3) := by decide +kernel
theorem dX1_init_32 : decode cX1_init 32 = .ok (.dup, 1) := by decide +kernel
theorem dX1_init_33 : decode cX1_init 33 = .ok (.invokespecial 17, 3) := by decide +kernel
theorem dX1_init_36 : decode cX1_init 36 = .ok (.aastore, 1) := by decide +kernel
theorem dX1_init_37 : decode cX1_init 37 = .ok (.iinc 1 1, 3) := by decide +kernel
theorem dX1_init_40 : decode cX1_init 40 = .ok (.goto (-25), 3) := by decide +kernel
theorem dX1_init_43 : decode cX1_init 43 = .ok (.return_, 1) := by decide +kernel
set_option maxRecDepth 20000 in
theorem ggX1_keep_X1_moveOldestBehind : GoodIn wsX1_keep wsX1_moveOldestBehind := goodIn_r _ [7, 2, 33, 34] (by decide +kernel) (by decide +kernel)
set_option maxRecDepth 20000 in
theorem gX1_keep_X1_moveOldestBehind : GoodIn wsX1_keep (wsV RX1 22 RX1 yX1_moveOldestBehind wsX1_moveOldestBehind) := goodIn_app (goodIn_of _ (by decide +kernel)) ggX1_keep_X1_moveOldestBehind
set_option maxRecDepth 20000 in
theorem ggX1_keep_X1_boardAt : GoodIn wsX1_keep wsX1_boardAt := goodIn_r _ [11, 2, 33, 34] (by decide +kernel) (by decide +kernel)
set_option maxRecDepth 20000 in
theorem gX1_keep_X1_boardAt : GoodIn wsX1_keep (wsV RX1 25 RX1 yX1_boardAt wsX1_boardAt) := goodIn_app (goodIn_of _ (by decide +kernel)) ggX1_keep_X1_boardAt
set_option maxRecDepth 20000 in
theorem ggX1_keep_X0_copy : GoodIn wsX1_keep wsX0_copy := goodIn_r _ [16, 17, 18, 19, 20, 21, 22, 23, 24, 25, 26, 27, 28, 29, 30, 31, 32, 35, 36, 37, 38, 39, 40, 41, 42, 43, 44, 45, 46] (by decide +kernel) (by decide +kernel)
set_option maxRecDepth 20000 in
theorem gX1_keep_X0_copy : GoodIn wsX1_keep (wsV RX1 29 RX0 yX0_copy wsX0_copy) := goodIn_app (goodIn_of _ (by decide +kernel)) ggX1_keep_X0_copy
theorem dX1_keep_0 : decode cX1_keep 0 = .ok (.aload_n 0, 1) := by decide +kernel
theorem dX1_keep_1 : decode cX1_keep 1 = .ok (.getfield 18, 3) := by decide +kernel
theorem dX1_keep_4 : decode cX1_keep 4 = .ok (.aload_n 0, 1) := by decide +kernel
theorem dX1_keep_5 : decode cX1_keep 5 = .ok (.getfield 11, 3) := by decide +kernel
theorem dX1_keep_8 : decode cX1_keep 8 = .ok (.arraylength, 1) := by decide +kernel
theorem dX1_keep_9 : decode cX1_keep 9 = .ok (.if_icmp .lt 17, 3) := by decide +kernel
theorem dX1_keep_12 : decode cX1_keep 12 = .ok (.aload_n 0, 1) := by decide +kernel
theorem dX1_keep_13 : decode cX1_keep 13 = .ok (.invokevirtual 22, 3) := by decide +kernel
theorem dX1_keep_16 : decode cX1_keep 16 = .ok (.aload_n 0, 1) := by decide +kernel
theorem dX1_keep_17 : decode cX1_keep 17 = .ok (.dup, 1) := by decide +kernel
theorem dX1_keep_18 : decode cX1_keep 18 = .ok (.getfield 18, 3) := by decide +kernel
theorem dX1_keep_21 : decode cX1_keep 21 = .ok (.iconst 1, 1) := by decide +kernel
theorem dX1_keep_22 : decode cX1_keep 22 = .ok (.isub, 1) := by decide +kernel
theorem dX1_keep_23 : decode cX1_keep 23 = .ok (.putfield 18, 3) := by decide +kernel
theorem dX1_keep_26 : decode cX1_keep 26 = .ok (.aload_n 0, 1) := by decide +kernel
theorem dX1_keep_27 : decode cX1_keep 27 = .ok (.aload_n 0, 1) := by decide +kernel
theorem dX1_keep_28 : decode cX1_keep 28 = .ok (.getfield 18, 3) := by decide +kernel
theorem dX1_keep_31 : decode cX1_keep 31 = .ok (.invokevirtual 25, 3) := by decide +kernel
theorem dX1_keep_34 : decode cX1_keep 34 = .ok (.astore_n 2, 1) := by decide +kernel
theorem dX1_keep_35 : decode cX1_keep 35 = .ok (.aload_n 2, 1) := by decide +kernel
theorem dX1_keep_36 : decode cX1_keep 36 = .ok (.ifnull 18, 3) := by decide +kernel
theorem dX1_keep_39 : decode cX1_keep 39 = .ok (.aload_n 2, 1) := by decide +kernel
theorem dX1_keep_40 : decode cX1_keep 40 = .ok (.aload_n 1, 1) := by decide +kernel
theorem dX1_keep_41 : decode cX1_keep 41 = .ok (.invokevirtual 29, 3) := by decide +kernel
theorem dX1_keep_44 : decode cX1_keep 44 = .ok (.aload_n 0, 1) := by decide +kernel
theorem dX1_keep_45 : decode cX1_keep 45 = .ok (.dup, 1) := by decide +kernel
theorem dX1_keep_46 : decode cX1_keep 46 = .ok (.getfield 18, 3) := by decide +kernel
theorem dX1_keep_49 : decode cX1_keep 49 = .ok (.iconst 1, 1) := by decide +kernel
theorem dX1_keep_50 : decode cX1_keep 50 = .ok (.iadd, 1) := by decide +kernel
theorem dX1_keep_51 : decode cX1_keep 51 = .ok (.putfield 18, 3) := by decide +kernel
theorem dX1_keep_54 : decode cX1_keep 54 = .ok (.return_, 1) := by decide +kernel
set_option maxRecDepth 20000 in
theorem ggX1_bringBack_X1_boardAt : GoodIn wsX1_bringBack wsX1_boardAt := goodIn_r _ [6, 7, 29, 30] (by decide +kernel) (by decide +kernel)
set_option maxRecDepth 20000 in
theorem gX1_bringBack_X1_boardAt : GoodIn wsX1_bringBack (wsV RX1 25 RX1 yX1_boardAt wsX1_boardAt) := goodIn_app (goodIn_of _ (by decide +kernel)) ggX1_bringBack_X1_boardAt
set_option maxRecDepth 20000 in
theorem ggX1_bringBack_X0_copy : GoodIn wsX1_bringBack wsX0_copy := goodIn_r _ [12, 13, 14, 15, 16, 17, 18, 19, 20, 21, 22, 23, 24, 25, 26, 27, 28, 31, 32, 33, 34, 35, 36, 37, 38, 39, 40, 41, 42] (by decide +kernel) (by decide +kernel)
set_option maxRecDepth 20000 in
theorem gX1_bringBack_X0_copy : GoodIn wsX1_bringBack (wsV RX1 29 RX0 yX0_copy wsX0_copy) := goodIn_app (goodIn_of _ (by decide +kernel)) ggX1_bringBack_X0_copy
theorem dX1_bringBack_0 : decode cX1_bringBack 0 = .ok (.aload_n 0, 1) := by decide +kernel
theorem dX1_bringBack_1 : decode cX1_bringBack 1 = .ok (.aload_n 0, 1) := by decide +kernel
theorem dX1_bringBack_2 : decode cX1_bringBack 2 = .ok (.getfield 18, 3) := by decide +kernel
theorem dX1_bringBack_5 : decode cX1_bringBack 5 = .ok (.iconst 1, 1) := by decide +kernel
theorem dX1_bringBack_6 : decode cX1_bringBack 6 = .ok (.isub, 1) := by decide +kernel
theorem dX1_bringBack_7 : decode cX1_bringBack 7 = .ok (.invokevirtual 25, 3) := by decide +kernel
theorem dX1_bringBack_10 : decode cX1_bringBack 10 = .ok (.astore_n 2, 1) := by decide +kernel
theorem dX1_bringBack_11 : decode cX1_bringBack 11 = .ok (.aload_n 2, 1) := by decide +kernel
theorem dX1_bringBack_12 : decode cX1_bringBack 12 = .ok (.ifnull 18, 3) := by decide +kernel
theorem dX1_bringBack_15 : decode cX1_bringBack 15 = .ok (.aload_n 1, 1) := by decide +kernel
theorem dX1_bringBack_16 : decode cX1_bringBack 16 = .ok (.aload_n 2, 1) := by decide +kernel
theorem dX1_bringBack_17 : decode cX1_bringBack 17 = .ok (.invokevirtual 29, 3) := by decide +kernel
theorem dX1_bringBack_20 : decode cX1_bringBack 20 = .ok (.aload_n 0, 1) := by decide +kernel
theorem dX1_bringBack_21 : decode cX1_bringBack 21 = .ok (.dup, 1) := by decide +kernel
theorem dX1_bringBack_22 : decode cX1_bringBack 22 = .ok (.getfield 18, 3) := by decide +kernel
theorem dX1_bringBack_25 : decode cX1_bringBack 25 = .ok (.iconst 1, 1) := by decide +kernel
theorem dX1_bringBack_26 : decode cX1_bringBack 26 = .ok (.isub, 1) := by decide +kernel
theorem dX1_bringBack_27 : decode cX1_bringBack 27 = .ok (.putfield 18, 3) := by decide +kernel
theorem dX1_bringBack_30 : decode cX1_bringBack 30 = .ok (.return_, 1) := by decide +kernel
theorem dX1_moveOldestBehind_0 : decode cX1_moveOldestBehind 0 = .ok (.iconst 1, 1) := by decide +kernel
theorem dX1_moveOldestBehind_1 : decode cX1_moveOldestBehind 1 = .ok (.istore_n 1, 1) := by decide +kernel
theorem dX1_moveOldestBehind_2 : decode cX1_moveOldestBehind 2 = .ok (.iload_n 1, 1) := by decide +kernel
theorem dX1_moveOldestBehind_3 : decode cX1_moveOldestBehind 3 = .ok (.aload_n 0, 1) := by decide +kernel
theorem dX1_moveOldestBehind_4 : decode cX1_moveOldestBehind 4 = .ok (.getfield 11, 3) := by decide +kernel
theorem dX1_moveOldestBehind_7 : decode cX1_moveOldestBehind 7 = .ok (.arraylength, 1) := by decide +kernel
theorem dX1_moveOldestBehind_8 : decode cX1_moveOldestBehind 8 = .ok (.if_icmp .ge 39, 3) := by decide +kernel
theorem dX1_moveOldestBehind_11 : decode cX1_moveOldestBehind 11 = .ok (.aload_n 0, 1) := by decide +kernel
theorem dX1_moveOldestBehind_12 : decode cX1_moveOldestBehind 12 = .ok (.getfield 11, 3) := by decide +kernel
theorem dX1_moveOldestBehind_15 : decode cX1_moveOldestBehind 15 = .ok (.iload_n 1, 1) := by decide +kernel
theorem dX1_moveOldestBehind_16 : decode cX1_moveOldestBehind 16 = .ok (.iconst 1, 1) := by decide +kernel
theorem dX1_moveOldestBehind_17 : decode cX1_moveOldestBehind 17 = .ok (.isub, 1) := by decide +kernel
theorem dX1_moveOldestBehind_18 : decode cX1_moveOldestBehind 18 = .ok (.aaload, 1) := by decide +kernel
theorem dX1_moveOldestBehind_19 : decode cX1_moveOldestBehind 19 = .ok (.astore_n 2, 1) := by decide +kernel
theorem dX1_moveOldestBehind_20 : decode cX1_moveOldestBehind 20 = .ok (.aload_n 0, 1) := by decide +kernel
theorem dX1_moveOldestBehind_21 : decode cX1_moveOldestBehind 21 = .ok (.getfield 11, 3) := by decide +kernel
theorem dX1_moveOldestBehind_24 : decode cX1_moveOldestBehind 24 = .ok (.iload_n 1, 1) := by decide +kernel
theorem dX1_moveOldestBehind_25 : decode cX1_moveOldestBehind 25 = .ok (.iconst 1, 1) := by decide +kernel
theorem dX1_moveOldestBehind_26 : decode cX1_moveOldestBehind 26 = .ok (.isub, 1) := by decide +kernel
theorem dX1_moveOldestBehind_27 : decode cX1_moveOldestBehind 27 = .ok (.aload_n 0, 1) := by decide +kernel
theorem dX1_moveOldestBehind_28 : decode cX1_moveOldestBehind 28 = .ok (.getfield 11, 3) := by decide +kernel
theorem dX1_moveOldestBehind_31 : decode cX1_moveOldestBehind 31 = .ok (.iload_n 1, 1) := by decide +kernel
theorem dX1_moveOldestBehind_32 : decode cX1_moveOldestBehind 32 = .ok (.aaload, 1) := by decide +kernel
theorem dX1_moveOldestBehind_33 : decode cX1_moveOldestBehind 33 = .ok (.aastore, 1) := by decide +kernel
theorem dX1_moveOldestBehind_34 : decode cX1_moveOldestBehind 34 = .ok (.aload_n 0, 1) := by decide +kernel
theorem dX1_moveOldestBehind_35 : decode cX1_moveOldestBehind 35 = .ok (.getfield 11, 3) := by decide +kernel
theorem dX1_moveOldestBehind_38 : decode cX1_moveOldestBehind 38 = .ok (.iload_n 1, 1) := by decide +kernel
theorem dX1_moveOldestBehind_39 : decode cX1_moveOldestBehind 39 = .ok (.aload_n 2, 1) := by decide +kernel
theorem dX1_moveOldestBehind_40 : decode cX1_moveOldestBehind 40 = .ok (.aastore, 1) := by decide +kernel
theorem dX1_moveOldestBehind_41 : decode cX1_moveOldestBehind 41 = .ok (.iinc 1 1, 3) := by decide +kernel
theorem dX1_moveOldestBehind_44 : decode cX1_moveOldestBehind 44 = .ok (.goto (-42), 3) := by decide +kernel
theorem dX1_moveOldestBehind_47 : decode cX1_moveOldestBehind 47 = .ok (.return_, 1) := by decide +kernel
theorem dX1_boardAt_0 : decode cX1_boardAt 0 = .ok (.iload_n 1, 1) := by decide +kernel
theorem dX1_boardAt_1 : decode cX1_boardAt 1 = .ok (.ifCond .lt 21, 3) := by decide +kernel
theorem dX1_boardAt_4 : decode cX1_boardAt 4 = .ok (.iload_n 1, 1) := by decide +kernel
theorem dX1_boardAt_5 : decode cX1_boardAt 5 = .ok (.aload_n 0, 1) := by decide +kernel
theorem dX1_boardAt_6 : decode cX1_boardAt 6 = .ok (.getfield 11, 3) := by decide +kernel
theorem dX1_boardAt_9 : decode cX1_boardAt 9 = .ok (.arraylength, 1) := by decide +kernel
theorem dX1_boardAt_10 : decode cX1_boardAt 10 = .ok (.if_icmp .ge 12, 3) := by decide +kernel
theorem dX1_boardAt_13 : decode cX1_boardAt 13 = .ok (.aload_n 0, 1) := by decide +kernel
theorem dX1_boardAt_14 : decode cX1_boardAt 14 = .ok (.getfield 11, 3) := by decide +kernel
theorem dX1_boardAt_17 : decode cX1_boardAt 17 = .ok (.iload_n 1, 1) := by decide +kernel
theorem dX1_boardAt_18 : decode cX1_boardAt 18 = .ok (.aaload, 1) := by decide +kernel
theorem dX1_boardAt_19 : decode cX1_boardAt 19 = .ok (.goto 4, 3) := by decide +kernel
theorem dX1_boardAt_22 : decode cX1_boardAt 22 = .ok (.aconst_null, 1) := by decide +kernel
theorem dX1_boardAt_23 : decode cX1_boardAt 23 = .ok (.areturn, 1) := by decide +kernel
theorem dX2_init_0 : decode cX2_init 0 = .ok (.aload_n 0, 1) := by decide +kernel
theorem dX2_init_1 : decode cX2_init 1 = .ok (.invokespecial 3, 3) := by decide +kernel
theorem dX2_init_4 : decode cX2_init 4 = .ok (.aload_n 0, 1) := by decide +kernel
theorem dX2_init_5 : decode cX2_init 5 = .ok (.bipush 16, 2) := by decide +kernel
theorem dX2_init_7 : decode cX2_init 7 = .ok (.newarray .long, 2) := by decide +kernel
theorem dX2_init_9 : decode cX2_init 9 = .ok (.putfield 9, 3) := by decide +kernel
theorem dX2_init_12 : decode cX2_init 12 = .ok (.aload_n 0, 1) := by decide +kernel
theorem dX2_init_13 : decode cX2_init 13 = .ok (.iconst 4, 1) := by decide +kernel
theorem dX2_init_14 : decode cX2_init 14 = .ok (.newarray .boolean, 2) := by decide +kernel
theorem dX2_init_16 : decode cX2_init 16 = .ok (.putfield 15, 3) := by decide +kernel
theorem dX2_init_19 : decode cX2_init 19 = .ok (.aload_n 0, 1) := by decide +kernel
theorem dX2_init_20 : decode cX2_init 20 = .ok (.iconst 4, 1) := by decide +kernel
theorem dX2_init_21 : decode cX2_init 21 = .ok (.newarray .long, 2) := by decide +kernel
theorem dX2_init_23 : decode cX2_init 23 = .ok (.putfield 19, 3) := by decide +kernel
theorem dX2_init_26 : decode cX2_init 26 = .ok (.aload_n 0, 1) := by decide +kernel
theorem dX2_init_27 : decode cX2_init 27 = .ok (.iconst 4, 1) := by decide +kernel
theorem dX2_init_28 : decode cX2_init 28 = .ok (.newarray .long, 2) := by decide +kernel
theorem dX2_init_30 : decode cX2_init 30 = .ok (.putfield 22, 3) := by decide +kernel
theorem dX2_init_33 : decode cX2_init 33 = .ok (.return_, 1) := by decide +kernel
theorem dX2_forgetArm_0 : decode cX2_forgetArm 0 = .ok (.iload_n 1, 1) := by decide +kernel
theorem dX2_forgetArm_1 : decode cX2_forgetArm 1 = .ok (.ifCond .lt 19, 3) := by decide +kernel
theorem dX2_forgetArm_4 : decode cX2_forgetArm 4 = .ok (.iload_n 1, 1) := by decide +kernel
theorem dX2_forgetArm_5 : decode cX2_forgetArm 5 = .ok (.aload_n 0, 1) := by decide +kernel
theorem dX2_forgetArm_6 : decode cX2_forgetArm 6 = .ok (.getfield 15, 3) := by decide +kernel
theorem dX2_forgetArm_9 : decode cX2_forgetArm 9 = .ok (.arraylength, 1) := by decide +kernel
theorem dX2_forgetArm_10 : decode cX2_forgetArm 10 = .ok (.if_icmp .ge 10, 3) := by decide +kernel
theorem dX2_forgetArm_13 : decode cX2_forgetArm 13 = .ok (.aload_n 0, 1) := by decide +kernel
theorem dX2_forgetArm_14 : decode cX2_forgetArm 14 = .ok (.getfield 15, 3) := by decide +kernel
theorem dX2_forgetArm_17 : decode cX2_forgetArm 17 = .ok (.iload_n 1, 1) := by decide +kernel
theorem dX2_forgetArm_18 : decode cX2_forgetArm 18 = .ok (.iconst 0, 1) := by decide +kernel
theorem dX2_forgetArm_19 : decode cX2_forgetArm 19 = .ok (.bastore, 1) := by decide +kernel
theorem dX2_forgetArm_20 : decode cX2_forgetArm 20 = .ok (.return_, 1) := by decide +kernel
theorem dX2_forgetAll_0 : decode cX2_forgetAll 0 = .ok (.iconst 0, 1) := by decide +kernel
theorem dX2_forgetAll_1 : decode cX2_forgetAll 1 = .ok (.istore_n 1, 1) := by decide +kernel
theorem dX2_forgetAll_2 : decode cX2_forgetAll 2 = .ok (.iload_n 1, 1) := by decide +kernel
theorem dX2_forgetAll_3 : decode cX2_forgetAll 3 = .ok (.aload_n 0, 1) := by decide +kernel
theorem dX2_forgetAll_4 : decode cX2_forgetAll 4 = .ok (.getfield 15, 3) := by decide +kernel
theorem dX2_forgetAll_7 : decode cX2_forgetAll 7 = .ok (.arraylength, 1) := by decide +kernel
theorem dX2_forgetAll_8 : decode cX2_forgetAll 8 = .ok (.if_icmp .ge 16, 3) := by decide +kernel
theorem dX2_forgetAll_11 : decode cX2_forgetAll 11 = .ok (.aload_n 0, 1) := by decide +kernel
theorem dX2_forgetAll_12 : decode cX2_forgetAll 12 = .ok (.getfield 15, 3) := by decide +kernel
theorem dX2_forgetAll_15 : decode cX2_forgetAll 15 = .ok (.iload_n 1, 1) := by decide +kernel
theorem dX2_forgetAll_16 : decode cX2_forgetAll 16 = .ok (.iconst 0, 1) := by decide +kernel
theorem dX2_forgetAll_17 : decode cX2_forgetAll 17 = .ok (.bastore, 1) := by decide +kernel
theorem dX2_forgetAll_18 : decode cX2_forgetAll 18 = .ok (.iinc 1 1, 3) := by decide +kernel
theorem dX2_forgetAll_21 : decode cX2_forgetAll 21 = .ok (.goto (-19), 3) := by decide +kernel
theorem dX2_forgetAll_24 : decode cX2_forgetAll 24 = .ok (.return_, 1) := by decide +kernel
set_option maxRecDepth 20000 in
theorem ggX2_refresh_X4_slotOf : GoodIn wsX2_refresh wsX4_slotOf := goodIn_r _ [5] (by decide +kernel) (by decide +kernel)
set_option maxRecDepth 20000 in
theorem gX2_refresh_X4_slotOf_n25 : GoodIn wsX2_refresh (wsX4_slotOf) := ggX2_refresh_X4_slotOf
set_option maxRecDepth 20000 in
theorem ggX2_refresh_X2_find : GoodIn wsX2_refresh wsX2_find := goodIn_r _ [10, 11, 12, 4, 13, 14, 15, 16, 9, 17, 18, 19, 20, 21, 22, 23, 24, 25, 26, 27, 28, 29, 30, 31, 32, 33, 34, 3, 5, 35, 36, 37, 38, 39, 40, 41, 42, 43, 44, 45, 46, 51, 52, 53, 54, 55, 56, 57, 58, 59, 60, 61, 62, 47, 48, 49, 50] (by decide +kernel) (by decide +kernel)
set_option maxRecDepth 20000 in
theorem gX2_refresh_X2_find : GoodIn wsX2_refresh (wsV RX2 29 RX2 yX2_find wsX2_find) := goodIn_app (goodIn_of _ (by decide +kernel)) ggX2_refresh_X2_find
set_option maxRecDepth 20000 in
theorem ggX2_refresh_X4_store_ : GoodIn wsX2_refresh wsX4_store_ := goodIn_r _ [42] (by decide +kernel) (by decide +kernel)
set_option maxRecDepth 20000 in
theorem gX2_refresh_X4_store__n33 : GoodIn wsX2_refresh (wsX4_store_) := ggX2_refresh_X4_store_
theorem dX2_refresh_0 : decode cX2_refresh 0 = .ok (.iconst 0, 1) := by decide +kernel
theorem dX2_refresh_1 : decode cX2_refresh 1 = .ok (.istore_n 2, 1) := by decide +kernel
theorem dX2_refresh_2 : decode cX2_refresh 2 = .ok (.iload_n 2, 1) := by decide +kernel
theorem dX2_refresh_3 : decode cX2_refresh 3 = .ok (.aload_n 0, 1) := by decide +kernel
theorem dX2_refresh_4 : decode cX2_refresh 4 = .ok (.getfield 15, 3) := by decide +kernel
theorem dX2_refresh_7 : decode cX2_refresh 7 = .ok (.arraylength, 1) := by decide +kernel
theorem dX2_refresh_8 : decode cX2_refresh 8 = .ok (.if_icmp .ge 57, 3) := by decide +kernel
theorem dX2_refresh_11 : decode cX2_refresh 11 = .ok (.aload_n 0, 1) := by decide +kernel
theorem dX2_refresh_12 : decode cX2_refresh 12 = .ok (.getfield 15, 3) := by decide +kernel
theorem dX2_refresh_15 : decode cX2_refresh 15 = .ok (.iload_n 2, 1) := by decide +kernel
theorem dX2_refresh_16 : decode cX2_refresh 16 = .ok (.baload, 1) := by decide +kernel
theorem dX2_refresh_17 : decode cX2_refresh 17 = .ok (.ifCond .ne 42, 3) := by decide +kernel
theorem dX2_refresh_20 : decode cX2_refresh 20 = .ok (.iconst 0, 1) := by decide +kernel
theorem dX2_refresh_21 : decode cX2_refresh 21 = .ok (.istore_n 3, 1) := by decide +kernel
theorem dX2_refresh_22 : decode cX2_refresh 22 = .ok (.iload_n 3, 1) := by decide +kernel
theorem dX2_refresh_23 : decode cX2_refresh 23 = .ok (.iconst 4, 1) := by decide +kernel
theorem dX2_refresh_24 : decode cX2_refresh 24 = .ok (.if_icmp .ge 28, 3) := by decide +kernel
theorem dX2_refresh_27 : decode cX2_refresh 27 = .ok (.aload_n 0, 1) := by decide +kernel
theorem dX2_refresh_28 : decode cX2_refresh 28 = .ok (.getfield 9, 3) := by decide +kernel
theorem dX2_refresh_31 : decode cX2_refresh 31 = .ok (.iload_n 2, 1) := by decide +kernel
theorem dX2_refresh_32 : decode cX2_refresh 32 = .ok (.iload_n 3, 1) := by decide +kernel
theorem dX2_refresh_33 : decode cX2_refresh 33 = .ok (.invokestatic 25, 3) := by decide +kernel
theorem dX2_refresh_36 : decode cX2_refresh 36 = .ok (.aload_n 0, 1) := by decide +kernel
theorem dX2_refresh_37 : decode cX2_refresh 37 = .ok (.aload_n 1, 1) := by decide +kernel
theorem dX2_refresh_38 : decode cX2_refresh 38 = .ok (.iload_n 2, 1) := by decide +kernel
theorem dX2_refresh_39 : decode cX2_refresh 39 = .ok (.iload_n 3, 1) := by decide +kernel
theorem dX2_refresh_40 : decode cX2_refresh 40 = .ok (.invokevirtual 29, 3) := by decide +kernel
theorem dX2_refresh_43 : decode cX2_refresh 43 = .ok (.invokestatic 33, 3) := by decide +kernel
theorem dX2_refresh_46 : decode cX2_refresh 46 = .ok (.iinc 3 1, 3) := by decide +kernel
theorem dX2_refresh_49 : decode cX2_refresh 49 = .ok (.goto (-27), 3) := by decide +kernel
theorem dX2_refresh_52 : decode cX2_refresh 52 = .ok (.aload_n 0, 1) := by decide +kernel
theorem dX2_refresh_53 : decode cX2_refresh 53 = .ok (.getfield 15, 3) := by decide +kernel
theorem dX2_refresh_56 : decode cX2_refresh 56 = .ok (.iload_n 2, 1) := by decide +kernel
theorem dX2_refresh_57 : decode cX2_refresh 57 = .ok (.iconst 1, 1) := by decide +kernel
theorem dX2_refresh_58 : decode cX2_refresh 58 = .ok (.bastore, 1) := by decide +kernel
theorem dX2_refresh_59 : decode cX2_refresh 59 = .ok (.iinc 2 1, 3) := by decide +kernel
theorem dX2_refresh_62 : decode cX2_refresh 62 = .ok (.goto (-60), 3) := by decide +kernel
theorem dX2_refresh_65 : decode cX2_refresh 65 = .ok (.return_, 1) := by decide +kernel
set_option maxRecDepth 20000 in
theorem ggX2_find_X4_at : GoodIn wsX2_find wsX4_at := goodIn_r _ [4] (by decide +kernel) (by decide +kernel)
set_option maxRecDepth 20000 in
theorem gX2_find_X4_at_n43 : GoodIn wsX2_find (wsX4_at) := ggX2_find_X4_at
set_option maxRecDepth 20000 in
theorem ggX2_find_X2_clearValues : GoodIn wsX2_find wsX2_clearValues := goodIn_r _ [9, 10, 53, 54, 55, 56] (by decide +kernel) (by decide +kernel)
set_option maxRecDepth 20000 in
theorem gX2_find_X2_clearValues : GoodIn wsX2_find (wsV RX2 47 RX2 yX2_clearValues wsX2_clearValues) := goodIn_app (goodIn_of _ (by decide +kernel)) ggX2_find_X2_clearValues
set_option maxRecDepth 20000 in
theorem ggX2_find_X2_turn : GoodIn wsX2_find wsX2_turn := goodIn_r _ [14, 1, 15, 10, 16, 17, 18, 19, 20, 21, 22, 23, 24, 25, 26, 2, 3, 4, 27, 28, 29, 30, 31, 32, 33, 34, 35, 36, 41, 42, 43, 44, 45, 46, 47, 48, 49, 50, 51, 52, 53, 54, 55, 56] (by decide +kernel) (by decide +kernel)
set_option maxRecDepth 20000 in
theorem gX2_find_X2_turn : GoodIn wsX2_find (wsV RX2 50 RX2 yX2_turn wsX2_turn) := goodIn_app (goodIn_of _ (by decide +kernel)) ggX2_find_X2_turn
set_option maxRecDepth 20000 in
theorem ggX2_find_X2_indexNow : GoodIn wsX2_find wsX2_indexNow := goodIn_r _ [40, 19, 1, 10, 2, 3, 4, 29, 30, 31, 32, 33, 34, 41, 42, 43, 44, 45, 46, 47, 48, 49, 50, 51, 52, 53, 54, 55, 56] (by decide +kernel) (by decide +kernel)
set_option maxRecDepth 20000 in
theorem gX2_find_X2_indexNow : GoodIn wsX2_find (wsV RX2 54 RX2 yX2_indexNow wsX2_indexNow) := goodIn_app (goodIn_of _ (by decide +kernel)) ggX2_find_X2_indexNow
theorem dX2_find_0 : decode cX2_find 0 = .ok (.aload_n 1, 1) := by decide +kernel
theorem dX2_find_1 : decode cX2_find 1 = .ok (.getfield 37, 3) := by decide +kernel
theorem dX2_find_4 : decode cX2_find 4 = .ok (.iconst 1, 1) := by decide +kernel
theorem dX2_find_5 : decode cX2_find 5 = .ok (.invokestatic 43, 3) := by decide +kernel
theorem dX2_find_8 : decode cX2_find 8 = .ok (.istore 4, 2) := by decide +kernel
theorem dX2_find_10 : decode cX2_find 10 = .ok (.aload_n 0, 1) := by decide +kernel
theorem dX2_find_11 : decode cX2_find 11 = .ok (.invokevirtual 47, 3) := by decide +kernel
theorem dX2_find_14 : decode cX2_find 14 = .ok (.iconst 0, 1) := by decide +kernel
theorem dX2_find_15 : decode cX2_find 15 = .ok (.istore 5, 2) := by decide +kernel
theorem dX2_find_17 : decode cX2_find 17 = .ok (.iload 5, 2) := by decide +kernel
theorem dX2_find_19 : decode cX2_find 19 = .ok (.iload 4, 2) := by decide +kernel
theorem dX2_find_21 : decode cX2_find 21 = .ok (.if_icmp .ge 16, 3) := by decide +kernel
theorem dX2_find_24 : decode cX2_find 24 = .ok (.aload_n 0, 1) := by decide +kernel
theorem dX2_find_25 : decode cX2_find 25 = .ok (.aload_n 1, 1) := by decide +kernel
theorem dX2_find_26 : decode cX2_find 26 = .ok (.iload_n 2, 1) := by decide +kernel
theorem dX2_find_27 : decode cX2_find 27 = .ok (.iload_n 3, 1) := by decide +kernel
theorem dX2_find_28 : decode cX2_find 28 = .ok (.invokevirtual 50, 3) := by decide +kernel
theorem dX2_find_31 : decode cX2_find 31 = .ok (.iinc 5 1, 3) := by decide +kernel
theorem dX2_find_34 : decode cX2_find 34 = .ok (.goto (-17), 3) := by decide +kernel
theorem dX2_find_37 : decode cX2_find 37 = .ok (.aload_n 0, 1) := by decide +kernel
theorem dX2_find_38 : decode cX2_find 38 = .ok (.aload_n 1, 1) := by decide +kernel
theorem dX2_find_39 : decode cX2_find 39 = .ok (.iload_n 3, 1) := by decide +kernel
theorem dX2_find_40 : decode cX2_find 40 = .ok (.invokevirtual 54, 3) := by decide +kernel
theorem dX2_find_43 : decode cX2_find 43 = .ok (.lreturn, 1) := by decide +kernel
set_option maxRecDepth 20000 in
theorem ggX2_leastRounds_X4_at : GoodIn wsX2_leastRounds wsX4_at := goodIn_r _ [4] (by decide +kernel) (by decide +kernel)
set_option maxRecDepth 20000 in
theorem gX2_leastRounds_X4_at_n43 : GoodIn wsX2_leastRounds (wsX4_at) := ggX2_leastRounds_X4_at
set_option maxRecDepth 20000 in
theorem ggX2_leastRounds_X2_clearValues : GoodIn wsX2_leastRounds wsX2_clearValues := goodIn_r _ [9, 10, 53, 54, 55, 56] (by decide +kernel) (by decide +kernel)
set_option maxRecDepth 20000 in
theorem gX2_leastRounds_X2_clearValues : GoodIn wsX2_leastRounds (wsV RX2 47 RX2 yX2_clearValues wsX2_clearValues) := goodIn_app (goodIn_of _ (by decide +kernel)) ggX2_leastRounds_X2_clearValues
set_option maxRecDepth 20000 in
theorem ggX2_leastRounds_X2_turn : GoodIn wsX2_leastRounds wsX2_turn := goodIn_r _ [14, 1, 15, 10, 16, 17, 18, 19, 20, 21, 22, 23, 24, 25, 26, 2, 3, 4, 27, 28, 29, 30, 31, 32, 33, 34, 35, 36, 41, 42, 43, 44, 45, 46, 47, 48, 49, 50, 51, 52, 53, 54, 55, 56] (by decide +kernel) (by decide +kernel)
set_option maxRecDepth 20000 in
theorem gX2_leastRounds_X2_turn : GoodIn wsX2_leastRounds (wsV RX2 50 RX2 yX2_turn wsX2_turn) := goodIn_app (goodIn_of _ (by decide +kernel)) ggX2_leastRounds_X2_turn
set_option maxRecDepth 20000 in
theorem ggX2_leastRounds_X2_indexNow : GoodIn wsX2_leastRounds wsX2_indexNow := goodIn_r _ [40, 19, 1, 10, 2, 3, 4, 29, 30, 31, 32, 33, 34, 41, 42, 43, 44, 45, 46, 47, 48, 49, 50, 51, 52, 53, 54, 55, 56] (by decide +kernel) (by decide +kernel)
set_option maxRecDepth 20000 in
theorem gX2_leastRounds_X2_indexNow : GoodIn wsX2_leastRounds (wsV RX2 54 RX2 yX2_indexNow wsX2_indexNow) := goodIn_app (goodIn_of _ (by decide +kernel)) ggX2_leastRounds_X2_indexNow
theorem dX2_leastRounds_0 : decode cX2_leastRounds 0 = .ok (.aload_n 1, 1) := by decide +kernel
theorem dX2_leastRounds_1 : decode cX2_leastRounds 1 = .ok (.getfield 37, 3) := by decide +kernel
theorem dX2_leastRounds_4 : decode cX2_leastRounds 4 = .ok (.iconst 1, 1) := by decide +kernel
theorem dX2_leastRounds_5 : decode cX2_leastRounds 5 = .ok (.invokestatic 43, 3) := by decide +kernel
theorem dX2_leastRounds_8 : decode cX2_leastRounds 8 = .ok (.istore 6, 2) := by decide +kernel
theorem dX2_leastRounds_10 : decode cX2_leastRounds 10 = .ok (.aload_n 0, 1) := by decide +kernel
theorem dX2_leastRounds_11 : decode cX2_leastRounds 11 = .ok (.invokevirtual 47, 3) := by decide +kernel
theorem dX2_leastRounds_14 : decode cX2_leastRounds 14 = .ok (.iconst 1, 1) := by decide +kernel
theorem dX2_leastRounds_15 : decode cX2_leastRounds 15 = .ok (.istore 7, 2) := by decide +kernel
theorem dX2_leastRounds_17 : decode cX2_leastRounds 17 = .ok (.iload 7, 2) := by decide +kernel
theorem dX2_leastRounds_19 : decode cX2_leastRounds 19 = .ok (.iload 6, 2) := by decide +kernel
theorem dX2_leastRounds_21 : decode cX2_leastRounds 21 = .ok (.if_icmp .ge 31, 3) := by decide +kernel
theorem dX2_leastRounds_24 : decode cX2_leastRounds 24 = .ok (.aload_n 0, 1) := by decide +kernel
theorem dX2_leastRounds_25 : decode cX2_leastRounds 25 = .ok (.aload_n 1, 1) := by decide +kernel
theorem dX2_leastRounds_26 : decode cX2_leastRounds 26 = .ok (.iload_n 2, 1) := by decide +kernel
theorem dX2_leastRounds_27 : decode cX2_leastRounds 27 = .ok (.iload_n 3, 1) := by decide +kernel
theorem dX2_leastRounds_28 : decode cX2_leastRounds 28 = .ok (.invokevirtual 50, 3) := by decide +kernel
theorem dX2_leastRounds_31 : decode cX2_leastRounds 31 = .ok (.aload_n 0, 1) := by decide +kernel
theorem dX2_leastRounds_32 : decode cX2_leastRounds 32 = .ok (.aload_n 1, 1) := by decide +kernel
theorem dX2_leastRounds_33 : decode cX2_leastRounds 33 = .ok (.iload_n 3, 1) := by decide +kernel
theorem dX2_leastRounds_34 : decode cX2_leastRounds 34 = .ok (.invokevirtual 54, 3) := by decide +kernel
theorem dX2_leastRounds_37 : decode cX2_leastRounds 37 = .ok (.lload 4, 2) := by decide +kernel
theorem dX2_leastRounds_39 : decode cX2_leastRounds 39 = .ok (.lcmp, 1) := by decide +kernel
theorem dX2_leastRounds_40 : decode cX2_leastRounds 40 = .ok (.ifCond .ne 6, 3) := by decide +kernel
theorem dX2_leastRounds_43 : decode cX2_leastRounds 43 = .ok (.iload 7, 2) := by decide +kernel
theorem dX2_leastRounds_45 : decode cX2_leastRounds 45 = .ok (.ireturn, 1) := by decide +kernel
theorem dX2_leastRounds_46 : decode cX2_leastRounds 46 = .ok (.iinc 7 1, 3) := by decide +kernel
theorem dX2_leastRounds_49 : decode cX2_leastRounds 49 = .ok (.goto (-32), 3) := by decide +kernel
theorem dX2_leastRounds_52 : decode cX2_leastRounds 52 = .ok (.iload 6, 2) := by decide +kernel
theorem dX2_leastRounds_54 : decode cX2_leastRounds 54 = .ok (.ireturn, 1) := by decide +kernel
theorem dX2_clearValues_0 : decode cX2_clearValues 0 = .ok (.iconst 0, 1) := by decide +kernel
theorem dX2_clearValues_1 : decode cX2_clearValues 1 = .ok (.istore_n 1, 1) := by decide +kernel
theorem dX2_clearValues_2 : decode cX2_clearValues 2 = .ok (.iload_n 1, 1) := by decide +kernel
theorem dX2_clearValues_3 : decode cX2_clearValues 3 = .ok (.aload_n 0, 1) := by decide +kernel
theorem dX2_clearValues_4 : decode cX2_clearValues 4 = .ok (.getfield 19, 3) := by decide +kernel
theorem dX2_clearValues_7 : decode cX2_clearValues 7 = .ok (.arraylength, 1) := by decide +kernel
theorem dX2_clearValues_8 : decode cX2_clearValues 8 = .ok (.if_icmp .ge 16, 3) := by decide +kernel
theorem dX2_clearValues_11 : decode cX2_clearValues 11 = .ok (.aload_n 0, 1) := by decide +kernel
theorem dX2_clearValues_12 : decode cX2_clearValues 12 = .ok (.getfield 19, 3) := by decide +kernel
theorem dX2_clearValues_15 : decode cX2_clearValues 15 = .ok (.iload_n 1, 1) := by decide +kernel
theorem dX2_clearValues_16 : decode cX2_clearValues 16 = .ok (.lconst 0, 1) := by decide +kernel
theorem dX2_clearValues_17 : decode cX2_clearValues 17 = .ok (.lastore, 1) := by decide +kernel
theorem dX2_clearValues_18 : decode cX2_clearValues 18 = .ok (.iinc 1 1, 3) := by decide +kernel
theorem dX2_clearValues_21 : decode cX2_clearValues 21 = .ok (.goto (-19), 3) := by decide +kernel
theorem dX2_clearValues_24 : decode cX2_clearValues 24 = .ok (.return_, 1) := by decide +kernel
set_option maxRecDepth 20000 in
theorem ggX2_turn_X4_at : GoodIn wsX2_turn wsX4_at := goodIn_r _ [17] (by decide +kernel) (by decide +kernel)
set_option maxRecDepth 20000 in
theorem gX2_turn_X4_at_n43 : GoodIn wsX2_turn (wsX4_at) := ggX2_turn_X4_at
set_option maxRecDepth 20000 in
theorem ggX2_turn_X4_slotOf : GoodIn wsX2_turn wsX4_slotOf := goodIn_r _ [19] (by decide +kernel) (by decide +kernel)
set_option maxRecDepth 20000 in
theorem gX2_turn_X4_slotOf_n25 : GoodIn wsX2_turn (wsX4_slotOf) := ggX2_turn_X4_slotOf
set_option maxRecDepth 20000 in
theorem ggX2_turn_X4_at_ : GoodIn wsX2_turn wsX4_at_ := goodIn_r _ [21] (by decide +kernel) (by decide +kernel)
set_option maxRecDepth 20000 in
theorem gX2_turn_X4_at__n64 : GoodIn wsX2_turn (wsX4_at_) := ggX2_turn_X4_at_
set_option maxRecDepth 20000 in
theorem ggX2_turn_J9_floorDiv_f86c9 : GoodIn wsX2_turn wsJ9_floorDiv_f86c9 := goodIn_r _ [25] (by decide +kernel) (by decide +kernel)
set_option maxRecDepth 20000 in
theorem gX2_turn_J9_floorDiv_f86c9 : GoodIn wsX2_turn (va_wsS RX2 72 yJ9_floorDiv_f86c9 wsJ9_floorDiv_f86c9) := goodIn_app (goodIn_of _ (by decide +kernel)) ggX2_turn_J9_floorDiv_f86c9
set_option maxRecDepth 20000 in
theorem ggX2_turn_X4_store_ : GoodIn wsX2_turn wsX4_store_ := goodIn_r _ [27] (by decide +kernel) (by decide +kernel)
set_option maxRecDepth 20000 in
theorem gX2_turn_X4_store__n33 : GoodIn wsX2_turn (wsX4_store_) := ggX2_turn_X4_store_
theorem dX2_turn_0 : decode cX2_turn 0 = .ok (.aload_n 1, 1) := by decide +kernel
theorem dX2_turn_1 : decode cX2_turn 1 = .ok (.getfield 37, 3) := by decide +kernel
theorem dX2_turn_4 : decode cX2_turn 4 = .ok (.iconst 0, 1) := by decide +kernel
theorem dX2_turn_5 : decode cX2_turn 5 = .ok (.invokestatic 43, 3) := by decide +kernel
theorem dX2_turn_8 : decode cX2_turn 8 = .ok (.i2l, 1) := by decide +kernel
theorem dX2_turn_9 : decode cX2_turn 9 = .ok (.lstore 4, 2) := by decide +kernel
theorem dX2_turn_11 : decode cX2_turn 11 = .ok (.iconst 0, 1) := by decide +kernel
theorem dX2_turn_12 : decode cX2_turn 12 = .ok (.istore 6, 2) := by decide +kernel
theorem dX2_turn_14 : decode cX2_turn 14 = .ok (.iload 6, 2) := by decide +kernel
theorem dX2_turn_16 : decode cX2_turn 16 = .ok (.iconst 4, 1) := by decide +kernel
theorem dX2_turn_17 : decode cX2_turn 17 = .ok (.if_icmp .ge 127, 3) := by decide +kernel
theorem dX2_turn_20 : decode cX2_turn 20 = .ok (.iload_n 2, 1) := by decide +kernel
theorem dX2_turn_21 : decode cX2_turn 21 = .ok (.iload 6, 2) := by decide +kernel
theorem dX2_turn_23 : decode cX2_turn 23 = .ok (.invokestatic 25, 3) := by decide +kernel
theorem dX2_turn_26 : decode cX2_turn 26 = .ok (.istore 7, 2) := by decide +kernel
theorem dX2_turn_28 : decode cX2_turn 28 = .ok (.aload_n 1, 1) := by decide +kernel
theorem dX2_turn_29 : decode cX2_turn 29 = .ok (.getfield 58, 3) := by decide +kernel
theorem dX2_turn_32 : decode cX2_turn 32 = .ok (.iload 7, 2) := by decide +kernel
theorem dX2_turn_34 : decode cX2_turn 34 = .ok (.invokestatic 43, 3) := by decide +kernel
theorem dX2_turn_37 : decode cX2_turn 37 = .ok (.i2l, 1) := by decide +kernel
theorem dX2_turn_38 : decode cX2_turn 38 = .ok (.lstore 8, 2) := by decide +kernel
theorem dX2_turn_40 : decode cX2_turn 40 = .ok (.aload_n 0, 1) := by decide +kernel
theorem dX2_turn_41 : decode cX2_turn 41 = .ok (.getfield 19, 3) := by decide +kernel
theorem dX2_turn_44 : decode cX2_turn 44 = .ok (.aload_n 1, 1) := by decide +kernel
theorem dX2_turn_45 : decode cX2_turn 45 = .ok (.getfield 61, 3) := by decide +kernel
theorem dX2_turn_48 : decode cX2_turn 48 = .ok (.iload 7, 2) := by decide +kernel
theorem dX2_turn_50 : decode cX2_turn 50 = .ok (.invokestatic 43, 3) := by decide +kernel
theorem dX2_turn_53 : decode cX2_turn 53 = .ok (.invokestatic 64, 3) := by decide +kernel
theorem dX2_turn_56 : decode cX2_turn 56 = .ok (.lstore 10, 2) := by decide +kernel
theorem dX2_turn_58 : decode cX2_turn 58 = .ok (.aload_n 0, 1) := by decide +kernel
theorem dX2_turn_59 : decode cX2_turn 59 = .ok (.getfield 19, 3) := by decide +kernel
theorem dX2_turn_62 : decode cX2_turn 62 = .ok (.aload_n 1, 1) := by decide +kernel
theorem dX2_turn_63 : decode cX2_turn 63 = .ok (.getfield 67, 3) := by decide +kernel
theorem dX2_turn_66 : decode cX2_turn 66 = .ok (.iload 7, 2) := by decide +kernel
theorem dX2_turn_68 : decode cX2_turn 68 = .ok (.invokestatic 43, 3) := by decide +kernel
theorem dX2_turn_71 : decode cX2_turn 71 = .ok (.invokestatic 64, 3) := by decide +kernel
theorem dX2_turn_74 : decode cX2_turn 74 = .ok (.lstore 12, 2) := by decide +kernel
theorem dX2_turn_76 : decode cX2_turn 76 = .ok (.lload 8, 2) := by decide +kernel
theorem dX2_turn_78 : decode cX2_turn 78 = .ok (.lload 10, 2) := by decide +kernel
theorem dX2_turn_80 : decode cX2_turn 80 = .ok (.lmul, 1) := by decide +kernel
theorem dX2_turn_81 : decode cX2_turn 81 = .ok (.ldc2_w 70, 3) := by decide +kernel
theorem dX2_turn_84 : decode cX2_turn 84 = .ok (.lload 8, 2) := by decide +kernel
theorem dX2_turn_86 : decode cX2_turn 86 = .ok (.lsub, 1) := by decide +kernel
theorem dX2_turn_87 : decode cX2_turn 87 = .ok (.lload 12, 2) := by decide +kernel
theorem dX2_turn_89 : decode cX2_turn 89 = .ok (.lmul, 1) := by decide +kernel
theorem dX2_turn_90 : decode cX2_turn 90 = .ok (.ladd, 1) := by decide +kernel
theorem dX2_turn_91 : decode cX2_turn 91 = .ok (.ldc2_w 70, 3) := by decide +kernel
theorem dX2_turn_94 : decode cX2_turn 94 = .ok (.invokestatic 72, 3) := by decide +kernel
theorem dX2_turn_97 : decode cX2_turn 97 = .ok (.lstore 14, 2) := by decide +kernel
theorem dX2_turn_99 : decode cX2_turn 99 = .ok (.lload 4, 2) := by decide +kernel
theorem dX2_turn_101 : decode cX2_turn 101 = .ok (.lload 14, 2) := by decide +kernel
theorem dX2_turn_103 : decode cX2_turn 103 = .ok (.lmul, 1) := by decide +kernel
theorem dX2_turn_104 : decode cX2_turn 104 = .ok (.ldc2_w 78, 3) := by decide +kernel
theorem dX2_turn_107 : decode cX2_turn 107 = .ok (.invokestatic 72, 3) := by decide +kernel
theorem dX2_turn_110 : decode cX2_turn 110 = .ok (.lstore 16, 2) := by decide +kernel
theorem dX2_turn_112 : decode cX2_turn 112 = .ok (.aload_n 0, 1) := by decide +kernel
theorem dX2_turn_113 : decode cX2_turn 113 = .ok (.getfield 22, 3) := by decide +kernel
theorem dX2_turn_116 : decode cX2_turn 116 = .ok (.iload 6, 2) := by decide +kernel
theorem dX2_turn_118 : decode cX2_turn 118 = .ok (.ldc2_w 80, 3) := by decide +kernel
theorem dX2_turn_121 : decode cX2_turn 121 = .ok (.aload_n 1, 1) := by decide +kernel
theorem dX2_turn_122 : decode cX2_turn 122 = .ok (.getfield 82, 3) := by decide +kernel
theorem dX2_turn_125 : decode cX2_turn 125 = .ok (.iload 7, 2) := by decide +kernel
theorem dX2_turn_127 : decode cX2_turn 127 = .ok (.invokestatic 43, 3) := by decide +kernel
theorem dX2_turn_130 : decode cX2_turn 130 = .ok (.i2l, 1) := by decide +kernel
theorem dX2_turn_131 : decode cX2_turn 131 = .ok (.lmul, 1) := by decide +kernel
theorem dX2_turn_132 : decode cX2_turn 132 = .ok (.lload 16, 2) := by decide +kernel
theorem dX2_turn_134 : decode cX2_turn 134 = .ok (.ladd, 1) := by decide +kernel
theorem dX2_turn_135 : decode cX2_turn 135 = .ok (.invokestatic 33, 3) := by decide +kernel
theorem dX2_turn_138 : decode cX2_turn 138 = .ok (.iinc 6 1, 3) := by decide +kernel
theorem dX2_turn_141 : decode cX2_turn 141 = .ok (.goto (-127), 3) := by decide +kernel
theorem dX2_turn_144 : decode cX2_turn 144 = .ok (.aload_n 0, 1) := by decide +kernel
theorem dX2_turn_145 : decode cX2_turn 145 = .ok (.getfield 22, 3) := by decide +kernel
theorem dX2_turn_148 : decode cX2_turn 148 = .ok (.iload_n 3, 1) := by decide +kernel
theorem dX2_turn_149 : decode cX2_turn 149 = .ok (.invokestatic 64, 3) := by decide +kernel
theorem dX2_turn_152 : decode cX2_turn 152 = .ok (.lstore 6, 2) := by decide +kernel
theorem dX2_turn_154 : decode cX2_turn 154 = .ok (.iconst 0, 1) := by decide +kernel
theorem dX2_turn_155 : decode cX2_turn 155 = .ok (.istore 8, 2) := by decide +kernel
theorem dX2_turn_157 : decode cX2_turn 157 = .ok (.iload 8, 2) := by decide +kernel
theorem dX2_turn_159 : decode cX2_turn 159 = .ok (.iconst 4, 1) := by decide +kernel
theorem dX2_turn_160 : decode cX2_turn 160 = .ok (.if_icmp .ge 32, 3) := by decide +kernel
theorem dX2_turn_163 : decode cX2_turn 163 = .ok (.aload_n 0, 1) := by decide +kernel
theorem dX2_turn_164 : decode cX2_turn 164 = .ok (.getfield 19, 3) := by decide +kernel
theorem dX2_turn_167 : decode cX2_turn 167 = .ok (.iload 8, 2) := by decide +kernel
theorem dX2_turn_169 : decode cX2_turn 169 = .ok (.aload_n 0, 1) := by decide +kernel
theorem dX2_turn_170 : decode cX2_turn 170 = .ok (.getfield 22, 3) := by decide +kernel
theorem dX2_turn_173 : decode cX2_turn 173 = .ok (.iload 8, 2) := by decide +kernel
theorem dX2_turn_175 : decode cX2_turn 175 = .ok (.invokestatic 64, 3) := by decide +kernel
theorem dX2_turn_178 : decode cX2_turn 178 = .ok (.lload 6, 2) := by decide +kernel
theorem dX2_turn_180 : decode cX2_turn 180 = .ok (.invokestatic 85, 3) := by decide +kernel
theorem dX2_turn_183 : decode cX2_turn 183 = .ok (.invokestatic 33, 3) := by decide +kernel
theorem dX2_turn_186 : decode cX2_turn 186 = .ok (.iinc 8 1, 3) := by decide +kernel
theorem dX2_turn_189 : decode cX2_turn 189 = .ok (.goto (-32), 3) := by decide +kernel
theorem dX2_turn_192 : decode cX2_turn 192 = .ok (.return_, 1) := by decide +kernel
set_option maxRecDepth 20000 in
theorem ggX2_indexNow_X4_at : GoodIn wsX2_indexNow wsX4_at := goodIn_r _ [6] (by decide +kernel) (by decide +kernel)
set_option maxRecDepth 20000 in
theorem gX2_indexNow_X4_at_n43 : GoodIn wsX2_indexNow (wsX4_at) := ggX2_indexNow_X4_at
set_option maxRecDepth 20000 in
theorem ggX2_indexNow_X4_at_ : GoodIn wsX2_indexNow wsX4_at_ := goodIn_r _ [8] (by decide +kernel) (by decide +kernel)
set_option maxRecDepth 20000 in
theorem gX2_indexNow_X4_at__n64 : GoodIn wsX2_indexNow (wsX4_at_) := ggX2_indexNow_X4_at_
set_option maxRecDepth 20000 in
theorem ggX2_indexNow_J9_floorDiv_f86c9 : GoodIn wsX2_indexNow wsJ9_floorDiv_f86c9 := goodIn_r _ [12] (by decide +kernel) (by decide +kernel)
set_option maxRecDepth 20000 in
theorem gX2_indexNow_J9_floorDiv_f86c9 : GoodIn wsX2_indexNow (va_wsS RX2 72 yJ9_floorDiv_f86c9 wsJ9_floorDiv_f86c9) := goodIn_app (goodIn_of _ (by decide +kernel)) ggX2_indexNow_J9_floorDiv_f86c9
theorem dX2_indexNow_0 : decode cX2_indexNow 0 = .ok (.ldc2_w 78, 3) := by decide +kernel
theorem dX2_indexNow_3 : decode cX2_indexNow 3 = .ok (.aload_n 1, 1) := by decide +kernel
theorem dX2_indexNow_4 : decode cX2_indexNow 4 = .ok (.getfield 37, 3) := by decide +kernel
theorem dX2_indexNow_7 : decode cX2_indexNow 7 = .ok (.iconst 0, 1) := by decide +kernel
theorem dX2_indexNow_8 : decode cX2_indexNow 8 = .ok (.invokestatic 43, 3) := by decide +kernel
theorem dX2_indexNow_11 : decode cX2_indexNow 11 = .ok (.i2l, 1) := by decide +kernel
theorem dX2_indexNow_12 : decode cX2_indexNow 12 = .ok (.lsub, 1) := by decide +kernel
theorem dX2_indexNow_13 : decode cX2_indexNow 13 = .ok (.aload_n 0, 1) := by decide +kernel
theorem dX2_indexNow_14 : decode cX2_indexNow 14 = .ok (.getfield 19, 3) := by decide +kernel
theorem dX2_indexNow_17 : decode cX2_indexNow 17 = .ok (.iload_n 2, 1) := by decide +kernel
theorem dX2_indexNow_18 : decode cX2_indexNow 18 = .ok (.invokestatic 64, 3) := by decide +kernel
theorem dX2_indexNow_21 : decode cX2_indexNow 21 = .ok (.lmul, 1) := by decide +kernel
theorem dX2_indexNow_22 : decode cX2_indexNow 22 = .ok (.ldc2_w 78, 3) := by decide +kernel
theorem dX2_indexNow_25 : decode cX2_indexNow 25 = .ok (.invokestatic 72, 3) := by decide +kernel
theorem dX2_indexNow_28 : decode cX2_indexNow 28 = .ok (.lreturn, 1) := by decide +kernel
theorem dX3_init_0 : decode cX3_init 0 = .ok (.aload_n 0, 1) := by decide +kernel
theorem dX3_init_1 : decode cX3_init 1 = .ok (.invokespecial 3, 3) := by decide +kernel
theorem dX3_init_4 : decode cX3_init 4 = .ok (.aload_n 0, 1) := by decide +kernel
theorem dX3_init_5 : decode cX3_init 5 = .ok (.bipush 60, 2) := by decide +kernel
theorem dX3_init_7 : decode cX3_init 7 = .ok (.newarray .int, 2) := by decide +kernel
theorem dX3_init_9 : decode cX3_init 9 = .ok (.putfield 9, 3) := by decide +kernel
theorem dX3_init_12 : decode cX3_init 12 = .ok (.return_, 1) := by decide +kernel
set_option maxRecDepth 20000 in
theorem ggX3_errorPlace_X4_at : GoodIn wsX3_errorPlace wsX4_at := goodIn_r _ [5] (by decide +kernel) (by decide +kernel)
set_option maxRecDepth 20000 in
theorem gX3_errorPlace_X4_at_n19 : GoodIn wsX3_errorPlace (wsX4_at) := ggX3_errorPlace_X4_at
set_option maxRecDepth 20000 in
theorem ggX3_errorPlace_X3_nextStage : GoodIn wsX3_errorPlace wsX3_nextStage := goodIn_r _ [9, 10, 4, 11, 12, 13, 8, 14, 15, 16, 17, 18, 19, 20] (by decide +kernel) (by decide +kernel)
set_option maxRecDepth 20000 in
theorem gX3_errorPlace_X3_nextStage : GoodIn wsX3_errorPlace (va_wsS RX3 23 yX3_nextStage wsX3_nextStage) := goodIn_app (goodIn_of _ (by decide +kernel)) ggX3_errorPlace_X3_nextStage
theorem dX3_errorPlace_0 : decode cX3_errorPlace 0 = .ok (.iconst 0, 1) := by decide +kernel
theorem dX3_errorPlace_1 : decode cX3_errorPlace 1 = .ok (.istore_n 1, 1) := by decide +kernel
theorem dX3_errorPlace_2 : decode cX3_errorPlace 2 = .ok (.iconst 0, 1) := by decide +kernel
theorem dX3_errorPlace_3 : decode cX3_errorPlace 3 = .ok (.istore_n 2, 1) := by decide +kernel
theorem dX3_errorPlace_4 : decode cX3_errorPlace 4 = .ok (.iload_n 2, 1) := by decide +kernel
theorem dX3_errorPlace_5 : decode cX3_errorPlace 5 = .ok (.aload_n 0, 1) := by decide +kernel
theorem dX3_errorPlace_6 : decode cX3_errorPlace 6 = .ok (.getfield 15, 3) := by decide +kernel
theorem dX3_errorPlace_9 : decode cX3_errorPlace 9 = .ok (.if_icmp .ge 29, 3) := by decide +kernel
theorem dX3_errorPlace_12 : decode cX3_errorPlace 12 = .ok (.iload_n 1, 1) := by decide +kernel
theorem dX3_errorPlace_13 : decode cX3_errorPlace 13 = .ok (.aload_n 0, 1) := by decide +kernel
theorem dX3_errorPlace_14 : decode cX3_errorPlace 14 = .ok (.getfield 9, 3) := by decide +kernel
theorem dX3_errorPlace_17 : decode cX3_errorPlace 17 = .ok (.iload_n 2, 1) := by decide +kernel
theorem dX3_errorPlace_18 : decode cX3_errorPlace 18 = .ok (.invokestatic 19, 3) := by decide +kernel
theorem dX3_errorPlace_21 : decode cX3_errorPlace 21 = .ok (.invokestatic 23, 3) := by decide +kernel
theorem dX3_errorPlace_24 : decode cX3_errorPlace 24 = .ok (.istore_n 1, 1) := by decide +kernel
theorem dX3_errorPlace_25 : decode cX3_errorPlace 25 = .ok (.iload_n 1, 1) := by decide +kernel
theorem dX3_errorPlace_26 : decode cX3_errorPlace 26 = .ok (.iconst (-1), 1) := by decide +kernel
theorem dX3_errorPlace_27 : decode cX3_errorPlace 27 = .ok (.if_icmp .ne 5, 3) := by decide +kernel
theorem dX3_errorPlace_30 : decode cX3_errorPlace 30 = .ok (.iload_n 2, 1) := by decide +kernel
theorem dX3_errorPlace_31 : decode cX3_errorPlace 31 = .ok (.ireturn, 1) := by decide +kernel
theorem dX3_errorPlace_32 : decode cX3_errorPlace 32 = .ok (.iinc 2 1, 3) := by decide +kernel
theorem dX3_errorPlace_35 : decode cX3_errorPlace 35 = .ok (.goto (-31), 3) := by decide +kernel
theorem dX3_errorPlace_38 : decode cX3_errorPlace 38 = .ok (.aload_n 0, 1) := by decide +kernel
theorem dX3_errorPlace_39 : decode cX3_errorPlace 39 = .ok (.getfield 15, 3) := by decide +kernel
theorem dX3_errorPlace_42 : decode cX3_errorPlace 42 = .ok (.ireturn, 1) := by decide +kernel
set_option maxRecDepth 20000 in
theorem ggX3_isWhole_X4_at : GoodIn wsX3_isWhole wsX4_at := goodIn_r _ [5] (by decide +kernel) (by decide +kernel)
set_option maxRecDepth 20000 in
theorem gX3_isWhole_X4_at_n19 : GoodIn wsX3_isWhole (wsX4_at) := ggX3_isWhole_X4_at
set_option maxRecDepth 20000 in
theorem ggX3_isWhole_X3_nextStage : GoodIn wsX3_isWhole wsX3_nextStage := goodIn_r _ [9, 10, 4, 11, 12, 13, 8, 14, 15, 16, 17, 18, 19, 20] (by decide +kernel) (by decide +kernel)
set_option maxRecDepth 20000 in
theorem gX3_isWhole_X3_nextStage : GoodIn wsX3_isWhole (va_wsS RX3 23 yX3_nextStage wsX3_nextStage) := goodIn_app (goodIn_of _ (by decide +kernel)) ggX3_isWhole_X3_nextStage
theorem dX3_isWhole_0 : decode cX3_isWhole 0 = .ok (.iconst 0, 1) := by decide +kernel
theorem dX3_isWhole_1 : decode cX3_isWhole 1 = .ok (.istore_n 1, 1) := by decide +kernel
theorem dX3_isWhole_2 : decode cX3_isWhole 2 = .ok (.iconst 0, 1) := by decide +kernel
theorem dX3_isWhole_3 : decode cX3_isWhole 3 = .ok (.istore_n 2, 1) := by decide +kernel
theorem dX3_isWhole_4 : decode cX3_isWhole 4 = .ok (.iload_n 2, 1) := by decide +kernel
theorem dX3_isWhole_5 : decode cX3_isWhole 5 = .ok (.aload_n 0, 1) := by decide +kernel
theorem dX3_isWhole_6 : decode cX3_isWhole 6 = .ok (.getfield 15, 3) := by decide +kernel
theorem dX3_isWhole_9 : decode cX3_isWhole 9 = .ok (.if_icmp .ge 22, 3) := by decide +kernel
theorem dX3_isWhole_12 : decode cX3_isWhole 12 = .ok (.iload_n 1, 1) := by decide +kernel
theorem dX3_isWhole_13 : decode cX3_isWhole 13 = .ok (.aload_n 0, 1) := by decide +kernel
theorem dX3_isWhole_14 : decode cX3_isWhole 14 = .ok (.getfield 9, 3) := by decide +kernel
theorem dX3_isWhole_17 : decode cX3_isWhole 17 = .ok (.iload_n 2, 1) := by decide +kernel
theorem dX3_isWhole_18 : decode cX3_isWhole 18 = .ok (.invokestatic 19, 3) := by decide +kernel
theorem dX3_isWhole_21 : decode cX3_isWhole 21 = .ok (.invokestatic 23, 3) := by decide +kernel
theorem dX3_isWhole_24 : decode cX3_isWhole 24 = .ok (.istore_n 1, 1) := by decide +kernel
theorem dX3_isWhole_25 : decode cX3_isWhole 25 = .ok (.iinc 2 1, 3) := by decide +kernel
theorem dX3_isWhole_28 : decode cX3_isWhole 28 = .ok (.goto (-24), 3) := by decide +kernel
theorem dX3_isWhole_31 : decode cX3_isWhole 31 = .ok (.iload_n 1, 1) := by decide +kernel
theorem dX3_isWhole_32 : decode cX3_isWhole 32 = .ok (.iconst 4, 1) := by decide +kernel
theorem dX3_isWhole_33 : decode cX3_isWhole 33 = .ok (.if_icmp .eq 14, 3) := by decide +kernel
theorem dX3_isWhole_36 : decode cX3_isWhole 36 = .ok (.iload_n 1, 1) := by decide +kernel
theorem dX3_isWhole_37 : decode cX3_isWhole 37 = .ok (.iconst 5, 1) := by decide +kernel
theorem dX3_isWhole_38 : decode cX3_isWhole 38 = .ok (.if_icmp .eq 9, 3) := by decide +kernel
theorem dX3_isWhole_41 : decode cX3_isWhole 41 = .ok (.iload_n 1, 1) := by decide +kernel
theorem dX3_isWhole_42 : decode cX3_isWhole 42 = .ok (.bipush 9, 2) := by decide +kernel
theorem dX3_isWhole_44 : decode cX3_isWhole 44 = .ok (.if_icmp .ne 7, 3) := by decide +kernel
theorem dX3_isWhole_47 : decode cX3_isWhole 47 = .ok (.iconst 1, 1) := by decide +kernel
theorem dX3_isWhole_48 : decode cX3_isWhole 48 = .ok (.goto 4, 3) := by decide +kernel
theorem dX3_isWhole_51 : decode cX3_isWhole 51 = .ok (.iconst 0, 1) := by decide +kernel
theorem dX3_isWhole_52 : decode cX3_isWhole 52 = .ok (.ireturn, 1) := by decide +kernel
set_option maxRecDepth 20000 in
theorem ggX3_moveInto_X4_at : GoodIn wsX3_moveInto wsX4_at := goodIn_r _ [9] (by decide +kernel) (by decide +kernel)
set_option maxRecDepth 20000 in
theorem gX3_moveInto_X4_at_n19 : GoodIn wsX3_moveInto (wsX4_at) := ggX3_moveInto_X4_at
set_option maxRecDepth 20000 in
theorem ggX3_moveInto_X3_nextStage : GoodIn wsX3_moveInto wsX3_nextStage := goodIn_r _ [13, 14, 8, 15, 16, 17, 12, 18, 19, 20, 21, 22, 23, 24] (by decide +kernel) (by decide +kernel)
set_option maxRecDepth 20000 in
theorem gX3_moveInto_X3_nextStage : GoodIn wsX3_moveInto (va_wsS RX3 23 yX3_nextStage wsX3_nextStage) := goodIn_app (goodIn_of _ (by decide +kernel)) ggX3_moveInto_X3_nextStage
set_option maxRecDepth 20000 in
theorem ggX3_moveInto_X4_slotOf : GoodIn wsX3_moveInto wsX4_slotOf := goodIn_r _ [26] (by decide +kernel) (by decide +kernel)
set_option maxRecDepth 20000 in
theorem gX3_moveInto_X4_slotOf_n27 : GoodIn wsX3_moveInto (wsX4_slotOf) := ggX3_moveInto_X4_slotOf
set_option maxRecDepth 20000 in
theorem ggX3_moveInto_X4_store : GoodIn wsX3_moveInto wsX4_store := goodIn_r _ [28] (by decide +kernel) (by decide +kernel)
set_option maxRecDepth 20000 in
theorem gX3_moveInto_X4_store_n35 : GoodIn wsX3_moveInto (wsX4_store) := ggX3_moveInto_X4_store
theorem dX3_moveInto_0 : decode cX3_moveInto 0 = .ok (.iconst 1, 1) := by decide +kernel
theorem dX3_moveInto_1 : decode cX3_moveInto 1 = .ok (.istore_n 2, 1) := by decide +kernel
theorem dX3_moveInto_2 : decode cX3_moveInto 2 = .ok (.iconst 0, 1) := by decide +kernel
theorem dX3_moveInto_3 : decode cX3_moveInto 3 = .ok (.istore_n 3, 1) := by decide +kernel
theorem dX3_moveInto_4 : decode cX3_moveInto 4 = .ok (.iconst 0, 1) := by decide +kernel
theorem dX3_moveInto_5 : decode cX3_moveInto 5 = .ok (.istore 4, 2) := by decide +kernel
theorem dX3_moveInto_7 : decode cX3_moveInto 7 = .ok (.iconst 0, 1) := by decide +kernel
theorem dX3_moveInto_8 : decode cX3_moveInto 8 = .ok (.istore 5, 2) := by decide +kernel
theorem dX3_moveInto_10 : decode cX3_moveInto 10 = .ok (.iconst 0, 1) := by decide +kernel
theorem dX3_moveInto_11 : decode cX3_moveInto 11 = .ok (.istore 6, 2) := by decide +kernel
theorem dX3_moveInto_13 : decode cX3_moveInto 13 = .ok (.iload 6, 2) := by decide +kernel
theorem dX3_moveInto_15 : decode cX3_moveInto 15 = .ok (.aload_n 0, 1) := by decide +kernel
theorem dX3_moveInto_16 : decode cX3_moveInto 16 = .ok (.getfield 15, 3) := by decide +kernel
theorem dX3_moveInto_19 : decode cX3_moveInto 19 = .ok (.if_icmp .ge 210, 3) := by decide +kernel
theorem dX3_moveInto_22 : decode cX3_moveInto 22 = .ok (.aload_n 0, 1) := by decide +kernel
theorem dX3_moveInto_23 : decode cX3_moveInto 23 = .ok (.getfield 9, 3) := by decide +kernel
theorem dX3_moveInto_26 : decode cX3_moveInto 26 = .ok (.iload 6, 2) := by decide +kernel
theorem dX3_moveInto_28 : decode cX3_moveInto 28 = .ok (.invokestatic 19, 3) := by decide +kernel
theorem dX3_moveInto_31 : decode cX3_moveInto 31 = .ok (.istore 7, 2) := by decide +kernel
theorem dX3_moveInto_33 : decode cX3_moveInto 33 = .ok (.iload 5, 2) := by decide +kernel
theorem dX3_moveInto_35 : decode cX3_moveInto 35 = .ok (.iload 7, 2) := by decide +kernel
theorem dX3_moveInto_37 : decode cX3_moveInto 37 = .ok (.invokestatic 23, 3) := by decide +kernel
theorem dX3_moveInto_40 : decode cX3_moveInto 40 = .ok (.istore 5, 2) := by decide +kernel
theorem dX3_moveInto_42 : decode cX3_moveInto 42 = .ok (.iload 5, 2) := by decide +kernel
theorem dX3_moveInto_44 : decode cX3_moveInto 44 = .ok (.tableswitch 179 0 9 #[56, 62, 71, 85, 98, 98, 179, 128, 145, 162], 56) := by decide +kernel
theorem dX3_moveInto_100 : decode cX3_moveInto 100 = .ok (.iinc 2 1, 3) := by decide +kernel
theorem dX3_moveInto_103 : decode cX3_moveInto 103 = .ok (.goto 120, 3) := by decide +kernel
theorem dX3_moveInto_106 : decode cX3_moveInto 106 = .ok (.iload 7, 2) := by decide +kernel
theorem dX3_moveInto_108 : decode cX3_moveInto 108 = .ok (.bipush 48, 2) := by decide +kernel
theorem dX3_moveInto_110 : decode cX3_moveInto 110 = .ok (.isub, 1) := by decide +kernel
theorem dX3_moveInto_111 : decode cX3_moveInto 111 = .ok (.istore_n 3, 1) := by decide +kernel
theorem dX3_moveInto_112 : decode cX3_moveInto 112 = .ok (.goto 111, 3) := by decide +kernel
theorem dX3_moveInto_115 : decode cX3_moveInto 115 = .ok (.iload_n 3, 1) := by decide +kernel
theorem dX3_moveInto_116 : decode cX3_moveInto 116 = .ok (.iload 7, 2) := by decide +kernel
theorem dX3_moveInto_118 : decode cX3_moveInto 118 = .ok (.bipush 97, 2) := by decide +kernel
theorem dX3_moveInto_120 : decode cX3_moveInto 120 = .ok (.isub, 1) := by decide +kernel
theorem dX3_moveInto_121 : decode cX3_moveInto 121 = .ok (.invokestatic 27, 3) := by decide +kernel
theorem dX3_moveInto_124 : decode cX3_moveInto 124 = .ok (.istore 4, 2) := by decide +kernel
theorem dX3_moveInto_126 : decode cX3_moveInto 126 = .ok (.goto 97, 3) := by decide +kernel
theorem dX3_moveInto_129 : decode cX3_moveInto 129 = .ok (.aload_n 1, 1) := by decide +kernel
theorem dX3_moveInto_130 : decode cX3_moveInto 130 = .ok (.getfield 30, 3) := by decide +kernel
theorem dX3_moveInto_133 : decode cX3_moveInto 133 = .ok (.iload 4, 2) := by decide +kernel
theorem dX3_moveInto_135 : decode cX3_moveInto 135 = .ok (.iconst 0, 1) := by decide +kernel
theorem dX3_moveInto_136 : decode cX3_moveInto 136 = .ok (.invokestatic 35, 3) := by decide +kernel
theorem dX3_moveInto_139 : decode cX3_moveInto 139 = .ok (.goto 84, 3) := by decide +kernel
theorem dX3_moveInto_142 : decode cX3_moveInto 142 = .ok (.aload_n 1, 1) := by decide +kernel
theorem dX3_moveInto_143 : decode cX3_moveInto 143 = .ok (.getfield 30, 3) := by decide +kernel
theorem dX3_moveInto_146 : decode cX3_moveInto 146 = .ok (.iload 4, 2) := by decide +kernel
theorem dX3_moveInto_148 : decode cX3_moveInto 148 = .ok (.bipush 10, 2) := by decide +kernel
theorem dX3_moveInto_150 : decode cX3_moveInto 150 = .ok (.aload_n 1, 1) := by decide +kernel
theorem dX3_moveInto_151 : decode cX3_moveInto 151 = .ok (.getfield 30, 3) := by decide +kernel
theorem dX3_moveInto_154 : decode cX3_moveInto 154 = .ok (.iload 4, 2) := by decide +kernel
theorem dX3_moveInto_156 : decode cX3_moveInto 156 = .ok (.invokestatic 19, 3) := by decide +kernel
theorem dX3_moveInto_159 : decode cX3_moveInto 159 = .ok (.imul, 1) := by decide +kernel
theorem dX3_moveInto_160 : decode cX3_moveInto 160 = .ok (.iload 7, 2) := by decide +kernel
theorem dX3_moveInto_162 : decode cX3_moveInto 162 = .ok (.iadd, 1) := by decide +kernel
theorem dX3_moveInto_163 : decode cX3_moveInto 163 = .ok (.bipush 48, 2) := by decide +kernel
theorem dX3_moveInto_165 : decode cX3_moveInto 165 = .ok (.isub, 1) := by decide +kernel
theorem dX3_moveInto_166 : decode cX3_moveInto 166 = .ok (.invokestatic 35, 3) := by decide +kernel
theorem dX3_moveInto_169 : decode cX3_moveInto 169 = .ok (.goto 54, 3) := by decide +kernel
theorem dX3_moveInto_172 : decode cX3_moveInto 172 = .ok (.aload_n 1, 1) := by decide +kernel
theorem dX3_moveInto_173 : decode cX3_moveInto 173 = .ok (.getfield 39, 3) := by decide +kernel
theorem dX3_moveInto_176 : decode cX3_moveInto 176 = .ok (.iload 4, 2) := by decide +kernel
theorem dX3_moveInto_178 : decode cX3_moveInto 178 = .ok (.iload 7, 2) := by decide +kernel
theorem dX3_moveInto_180 : decode cX3_moveInto 180 = .ok (.bipush 97, 2) := by decide +kernel
theorem dX3_moveInto_182 : decode cX3_moveInto 182 = .ok (.isub, 1) := by decide +kernel
theorem dX3_moveInto_183 : decode cX3_moveInto 183 = .ok (.invokestatic 35, 3) := by decide +kernel
theorem dX3_moveInto_186 : decode cX3_moveInto 186 = .ok (.goto 37, 3) := by decide +kernel
theorem dX3_moveInto_189 : decode cX3_moveInto 189 = .ok (.aload_n 1, 1) := by decide +kernel
theorem dX3_moveInto_190 : decode cX3_moveInto 190 = .ok (.getfield 42, 3) := by decide +kernel
theorem dX3_moveInto_193 : decode cX3_moveInto 193 = .ok (.iload 4, 2) := by decide +kernel
theorem dX3_moveInto_195 : decode cX3_moveInto 195 = .ok (.iload 7, 2) := by decide +kernel
theorem dX3_moveInto_197 : decode cX3_moveInto 197 = .ok (.bipush 97, 2) := by decide +kernel
theorem dX3_moveInto_199 : decode cX3_moveInto 199 = .ok (.isub, 1) := by decide +kernel
theorem dX3_moveInto_200 : decode cX3_moveInto 200 = .ok (.invokestatic 35, 3) := by decide +kernel
theorem dX3_moveInto_203 : decode cX3_moveInto 203 = .ok (.goto 20, 3) := by decide +kernel
theorem dX3_moveInto_206 : decode cX3_moveInto 206 = .ok (.aload_n 1, 1) := by decide +kernel
theorem dX3_moveInto_207 : decode cX3_moveInto 207 = .ok (.getfield 45, 3) := by decide +kernel
theorem dX3_moveInto_210 : decode cX3_moveInto 210 = .ok (.iload 4, 2) := by decide +kernel
theorem dX3_moveInto_212 : decode cX3_moveInto 212 = .ok (.iload 7, 2) := by decide +kernel
theorem dX3_moveInto_214 : decode cX3_moveInto 214 = .ok (.bipush 48, 2) := by decide +kernel
theorem dX3_moveInto_216 : decode cX3_moveInto 216 = .ok (.isub, 1) := by decide +kernel
theorem dX3_moveInto_217 : decode cX3_moveInto 217 = .ok (.invokestatic 35, 3) := by decide +kernel
theorem dX3_moveInto_220 : decode cX3_moveInto 220 = .ok (.goto 3, 3) := by decide +kernel
theorem dX3_moveInto_223 : decode cX3_moveInto 223 = .ok (.iinc 6 1, 3) := by decide +kernel
theorem dX3_moveInto_226 : decode cX3_moveInto 226 = .ok (.goto (-213), 3) := by decide +kernel
theorem dX3_moveInto_229 : decode cX3_moveInto 229 = .ok (.iload_n 2, 1) := by decide +kernel
theorem dX3_moveInto_230 : decode cX3_moveInto 230 = .ok (.ireturn, 1) := by decide +kernel
set_option maxRecDepth 20000 in
theorem ggX3_nextStage_X4_isWithin : GoodIn wsX3_nextStage wsX4_isWithin := goodIn_r _ [3] (by decide +kernel) (by decide +kernel)
set_option maxRecDepth 20000 in
theorem gX3_nextStage_X4_isWithin_n48 : GoodIn wsX3_nextStage (wsX4_isWithin) := ggX3_nextStage_X4_isWithin
set_option maxRecDepth 20000 in
theorem ggX3_nextStage_X3_isStateLetter : GoodIn wsX3_nextStage wsX3_isStateLetter := goodIn_r _ [7, 1, 2, 3] (by decide +kernel) (by decide +kernel)
set_option maxRecDepth 20000 in
theorem gX3_nextStage_X3_isStateLetter : GoodIn wsX3_nextStage (va_wsS RX3 52 yX3_isStateLetter wsX3_isStateLetter) := goodIn_app (goodIn_of _ (by decide +kernel)) ggX3_nextStage_X3_isStateLetter
set_option maxRecDepth 20000 in
theorem ggX3_nextStage_X3_firstDigit : GoodIn wsX3_nextStage wsX3_firstDigit := goodIn_r _ [10, 1, 2, 3] (by decide +kernel) (by decide +kernel)
set_option maxRecDepth 20000 in
theorem gX3_nextStage_X3_firstDigit : GoodIn wsX3_nextStage (va_wsS RX3 56 yX3_firstDigit wsX3_firstDigit) := goodIn_app (goodIn_of _ (by decide +kernel)) ggX3_nextStage_X3_firstDigit
set_option maxRecDepth 20000 in
theorem ggX3_nextStage_X3_behindGift : GoodIn wsX3_nextStage wsX3_behindGift := goodIn_r _ [13] (by decide +kernel) (by decide +kernel)
set_option maxRecDepth 20000 in
theorem gX3_nextStage_X3_behindGift : GoodIn wsX3_nextStage (va_wsS RX3 60 yX3_behindGift wsX3_behindGift) := goodIn_app (goodIn_of _ (by decide +kernel)) ggX3_nextStage_X3_behindGift
theorem dX3_nextStage_0 : decode cX3_nextStage 0 = .ok (.iload_n 0, 1) := by decide +kernel
theorem dX3_nextStage_1 : decode cX3_nextStage 1 = .ok (.tableswitch 185 0 9 #[55, 72, 85, 97, 102, 122, 127, 141, 155, 173], 55) := by decide +kernel
theorem dX3_nextStage_56 : decode cX3_nextStage 56 = .ok (.iload_n 1, 1) := by decide +kernel
theorem dX3_nextStage_57 : decode cX3_nextStage 57 = .ok (.bipush 48, 2) := by decide +kernel
theorem dX3_nextStage_59 : decode cX3_nextStage 59 = .ok (.bipush 51, 2) := by decide +kernel
theorem dX3_nextStage_61 : decode cX3_nextStage 61 = .ok (.invokestatic 48, 3) := by decide +kernel
theorem dX3_nextStage_64 : decode cX3_nextStage 64 = .ok (.ifCond .eq 7, 3) := by decide +kernel
theorem dX3_nextStage_67 : decode cX3_nextStage 67 = .ok (.iconst 1, 1) := by decide +kernel
theorem dX3_nextStage_68 : decode cX3_nextStage 68 = .ok (.goto 4, 3) := by decide +kernel
theorem dX3_nextStage_71 : decode cX3_nextStage 71 = .ok (.iconst (-1), 1) := by decide +kernel
theorem dX3_nextStage_72 : decode cX3_nextStage 72 = .ok (.ireturn, 1) := by decide +kernel
theorem dX3_nextStage_73 : decode cX3_nextStage 73 = .ok (.iload_n 1, 1) := by decide +kernel
theorem dX3_nextStage_74 : decode cX3_nextStage 74 = .ok (.invokestatic 52, 3) := by decide +kernel
theorem dX3_nextStage_77 : decode cX3_nextStage 77 = .ok (.ifCond .eq 7, 3) := by decide +kernel
theorem dX3_nextStage_80 : decode cX3_nextStage 80 = .ok (.iconst 2, 1) := by decide +kernel
theorem dX3_nextStage_81 : decode cX3_nextStage 81 = .ok (.goto 4, 3) := by decide +kernel
theorem dX3_nextStage_84 : decode cX3_nextStage 84 = .ok (.iconst (-1), 1) := by decide +kernel
theorem dX3_nextStage_85 : decode cX3_nextStage 85 = .ok (.ireturn, 1) := by decide +kernel
theorem dX3_nextStage_86 : decode cX3_nextStage 86 = .ok (.iload_n 1, 1) := by decide +kernel
theorem dX3_nextStage_87 : decode cX3_nextStage 87 = .ok (.bipush 61, 2) := by decide +kernel
theorem dX3_nextStage_89 : decode cX3_nextStage 89 = .ok (.if_icmp .ne 7, 3) := by decide +kernel
theorem dX3_nextStage_92 : decode cX3_nextStage 92 = .ok (.iconst 3, 1) := by decide +kernel
theorem dX3_nextStage_93 : decode cX3_nextStage 93 = .ok (.goto 4, 3) := by decide +kernel
theorem dX3_nextStage_96 : decode cX3_nextStage 96 = .ok (.iconst (-1), 1) := by decide +kernel
theorem dX3_nextStage_97 : decode cX3_nextStage 97 = .ok (.ireturn, 1) := by decide +kernel
theorem dX3_nextStage_98 : decode cX3_nextStage 98 = .ok (.iload_n 1, 1) := by decide +kernel
theorem dX3_nextStage_99 : decode cX3_nextStage 99 = .ok (.invokestatic 56, 3) := by decide +kernel
theorem dX3_nextStage_102 : decode cX3_nextStage 102 = .ok (.ireturn, 1) := by decide +kernel
theorem dX3_nextStage_103 : decode cX3_nextStage 103 = .ok (.iload_n 1, 1) := by decide +kernel
theorem dX3_nextStage_104 : decode cX3_nextStage 104 = .ok (.bipush 48, 2) := by decide +kernel
theorem dX3_nextStage_106 : decode cX3_nextStage 106 = .ok (.bipush 57, 2) := by decide +kernel
theorem dX3_nextStage_108 : decode cX3_nextStage 108 = .ok (.invokestatic 48, 3) := by decide +kernel
theorem dX3_nextStage_111 : decode cX3_nextStage 111 = .ok (.ifCond .eq 7, 3) := by decide +kernel
theorem dX3_nextStage_114 : decode cX3_nextStage 114 = .ok (.iconst 5, 1) := by decide +kernel
theorem dX3_nextStage_115 : decode cX3_nextStage 115 = .ok (.goto 7, 3) := by decide +kernel
theorem dX3_nextStage_118 : decode cX3_nextStage 118 = .ok (.iload_n 1, 1) := by decide +kernel
theorem dX3_nextStage_119 : decode cX3_nextStage 119 = .ok (.invokestatic 60, 3) := by decide +kernel
theorem dX3_nextStage_122 : decode cX3_nextStage 122 = .ok (.ireturn, 1) := by decide +kernel
theorem dX3_nextStage_123 : decode cX3_nextStage 123 = .ok (.iload_n 1, 1) := by decide +kernel
theorem dX3_nextStage_124 : decode cX3_nextStage 124 = .ok (.invokestatic 60, 3) := by decide +kernel
theorem dX3_nextStage_127 : decode cX3_nextStage 127 = .ok (.ireturn, 1) := by decide +kernel
theorem dX3_nextStage_128 : decode cX3_nextStage 128 = .ok (.iload_n 1, 1) := by decide +kernel
theorem dX3_nextStage_129 : decode cX3_nextStage 129 = .ok (.invokestatic 52, 3) := by decide +kernel
theorem dX3_nextStage_132 : decode cX3_nextStage 132 = .ok (.ifCond .eq 8, 3) := by decide +kernel
theorem dX3_nextStage_135 : decode cX3_nextStage 135 = .ok (.bipush 7, 2) := by decide +kernel
theorem dX3_nextStage_137 : decode cX3_nextStage 137 = .ok (.goto 4, 3) := by decide +kernel
theorem dX3_nextStage_140 : decode cX3_nextStage 140 = .ok (.iconst (-1), 1) := by decide +kernel
theorem dX3_nextStage_141 : decode cX3_nextStage 141 = .ok (.ireturn, 1) := by decide +kernel
theorem dX3_nextStage_142 : decode cX3_nextStage 142 = .ok (.iload_n 1, 1) := by decide +kernel
theorem dX3_nextStage_143 : decode cX3_nextStage 143 = .ok (.invokestatic 52, 3) := by decide +kernel
theorem dX3_nextStage_146 : decode cX3_nextStage 146 = .ok (.ifCond .eq 8, 3) := by decide +kernel
theorem dX3_nextStage_149 : decode cX3_nextStage 149 = .ok (.bipush 8, 2) := by decide +kernel
theorem dX3_nextStage_151 : decode cX3_nextStage 151 = .ok (.goto 4, 3) := by decide +kernel
theorem dX3_nextStage_154 : decode cX3_nextStage 154 = .ok (.iconst (-1), 1) := by decide +kernel
theorem dX3_nextStage_155 : decode cX3_nextStage 155 = .ok (.ireturn, 1) := by decide +kernel
theorem dX3_nextStage_156 : decode cX3_nextStage 156 = .ok (.iload_n 1, 1) := by decide +kernel
theorem dX3_nextStage_157 : decode cX3_nextStage 157 = .ok (.bipush 48, 2) := by decide +kernel
theorem dX3_nextStage_159 : decode cX3_nextStage 159 = .ok (.bipush 56, 2) := by decide +kernel
theorem dX3_nextStage_161 : decode cX3_nextStage 161 = .ok (.invokestatic 48, 3) := by decide +kernel
theorem dX3_nextStage_164 : decode cX3_nextStage 164 = .ok (.ifCond .eq 8, 3) := by decide +kernel
theorem dX3_nextStage_167 : decode cX3_nextStage 167 = .ok (.bipush 9, 2) := by decide +kernel
theorem dX3_nextStage_169 : decode cX3_nextStage 169 = .ok (.goto 4, 3) := by decide +kernel
theorem dX3_nextStage_172 : decode cX3_nextStage 172 = .ok (.iconst (-1), 1) := by decide +kernel
theorem dX3_nextStage_173 : decode cX3_nextStage 173 = .ok (.ireturn, 1) := by decide +kernel
theorem dX3_nextStage_174 : decode cX3_nextStage 174 = .ok (.iload_n 1, 1) := by decide +kernel
theorem dX3_nextStage_175 : decode cX3_nextStage 175 = .ok (.bipush 59, 2) := by decide +kernel
theorem dX3_nextStage_177 : decode cX3_nextStage 177 = .ok (.if_icmp .ne 7, 3) := by decide +kernel
theorem dX3_nextStage_180 : decode cX3_nextStage 180 = .ok (.iconst 0, 1) := by decide +kernel
theorem dX3_nextStage_181 : decode cX3_nextStage 181 = .ok (.goto 4, 3) := by decide +kernel
theorem dX3_nextStage_184 : decode cX3_nextStage 184 = .ok (.iconst (-1), 1) := by decide +kernel
theorem dX3_nextStage_185 : decode cX3_nextStage 185 = .ok (.ireturn, 1) := by decide +kernel
theorem dX3_nextStage_186 : decode cX3_nextStage 186 = .ok (.iconst (-1), 1) := by decide +kernel
theorem dX3_nextStage_187 : decode cX3_nextStage 187 = .ok (.ireturn, 1) := by decide +kernel
set_option maxRecDepth 20000 in
theorem ggX3_isStateLetter_X4_isWithin : GoodIn wsX3_isStateLetter wsX4_isWithin := goodIn_r _ [3] (by decide +kernel) (by decide +kernel)
set_option maxRecDepth 20000 in
theorem gX3_isStateLetter_X4_isWithin_n48 : GoodIn wsX3_isStateLetter (wsX4_isWithin) := ggX3_isStateLetter_X4_isWithin
theorem dX3_isStateLetter_0 : decode cX3_isStateLetter 0 = .ok (.iload_n 0, 1) := by decide +kernel
theorem dX3_isStateLetter_1 : decode cX3_isStateLetter 1 = .ok (.bipush 97, 2) := by decide +kernel
theorem dX3_isStateLetter_3 : decode cX3_isStateLetter 3 = .ok (.bipush 100, 2) := by decide +kernel
theorem dX3_isStateLetter_5 : decode cX3_isStateLetter 5 = .ok (.invokestatic 48, 3) := by decide +kernel
theorem dX3_isStateLetter_8 : decode cX3_isStateLetter 8 = .ok (.ireturn, 1) := by decide +kernel
set_option maxRecDepth 20000 in
theorem ggX3_firstDigit_X4_isWithin : GoodIn wsX3_firstDigit wsX4_isWithin := goodIn_r _ [3] (by decide +kernel) (by decide +kernel)
set_option maxRecDepth 20000 in
theorem gX3_firstDigit_X4_isWithin_n48 : GoodIn wsX3_firstDigit (wsX4_isWithin) := ggX3_firstDigit_X4_isWithin
theorem dX3_firstDigit_0 : decode cX3_firstDigit 0 = .ok (.iload_n 0, 1) := by decide +kernel
theorem dX3_firstDigit_1 : decode cX3_firstDigit 1 = .ok (.bipush 48, 2) := by decide +kernel
theorem dX3_firstDigit_3 : decode cX3_firstDigit 3 = .ok (.if_icmp .ne 5, 3) := by decide +kernel
theorem dX3_firstDigit_6 : decode cX3_firstDigit 6 = .ok (.iconst 5, 1) := by decide +kernel
theorem dX3_firstDigit_7 : decode cX3_firstDigit 7 = .ok (.ireturn, 1) := by decide +kernel
theorem dX3_firstDigit_8 : decode cX3_firstDigit 8 = .ok (.iload_n 0, 1) := by decide +kernel
theorem dX3_firstDigit_9 : decode cX3_firstDigit 9 = .ok (.bipush 49, 2) := by decide +kernel
theorem dX3_firstDigit_11 : decode cX3_firstDigit 11 = .ok (.bipush 57, 2) := by decide +kernel
theorem dX3_firstDigit_13 : decode cX3_firstDigit 13 = .ok (.invokestatic 48, 3) := by decide +kernel
theorem dX3_firstDigit_16 : decode cX3_firstDigit 16 = .ok (.ifCond .eq 7, 3) := by decide +kernel
theorem dX3_firstDigit_19 : decode cX3_firstDigit 19 = .ok (.iconst 4, 1) := by decide +kernel
theorem dX3_firstDigit_20 : decode cX3_firstDigit 20 = .ok (.goto 4, 3) := by decide +kernel
theorem dX3_firstDigit_23 : decode cX3_firstDigit 23 = .ok (.iconst (-1), 1) := by decide +kernel
theorem dX3_firstDigit_24 : decode cX3_firstDigit 24 = .ok (.ireturn, 1) := by decide +kernel
theorem dX3_behindGift_0 : decode cX3_behindGift 0 = .ok (.iload_n 0, 1) := by decide +kernel
theorem dX3_behindGift_1 : decode cX3_behindGift 1 = .ok (.bipush 59, 2) := by decide +kernel
theorem dX3_behindGift_3 : decode cX3_behindGift 3 = .ok (.if_icmp .ne 5, 3) := by decide +kernel
theorem dX3_behindGift_6 : decode cX3_behindGift 6 = .ok (.iconst 0, 1) := by decide +kernel
theorem dX3_behindGift_7 : decode cX3_behindGift 7 = .ok (.ireturn, 1) := by decide +kernel
theorem dX3_behindGift_8 : decode cX3_behindGift 8 = .ok (.iload_n 0, 1) := by decide +kernel
theorem dX3_behindGift_9 : decode cX3_behindGift 9 = .ok (.bipush 62, 2) := by decide +kernel
theorem dX3_behindGift_11 : decode cX3_behindGift 11 = .ok (.if_icmp .ne 8, 3) := by decide +kernel
theorem dX3_behindGift_14 : decode cX3_behindGift 14 = .ok (.bipush 6, 2) := by decide +kernel
theorem dX3_behindGift_16 : decode cX3_behindGift 16 = .ok (.goto 4, 3) := by decide +kernel
theorem dX3_behindGift_19 : decode cX3_behindGift 19 = .ok (.iconst (-1), 1) := by decide +kernel
theorem dX3_behindGift_20 : decode cX3_behindGift 20 = .ok (.ireturn, 1) := by decide +kernel
theorem dX4_isWithin_0 : decode cX4_isWithin 0 = .ok (.iload_n 0, 1) := by decide +kernel
theorem dX4_isWithin_1 : decode cX4_isWithin 1 = .ok (.iload_n 1, 1) := by decide +kernel
theorem dX4_isWithin_2 : decode cX4_isWithin 2 = .ok (.if_icmp .lt 12, 3) := by decide +kernel
theorem dX4_isWithin_5 : decode cX4_isWithin 5 = .ok (.iload_n 0, 1) := by decide +kernel
theorem dX4_isWithin_6 : decode cX4_isWithin 6 = .ok (.iload_n 2, 1) := by decide +kernel
theorem dX4_isWithin_7 : decode cX4_isWithin 7 = .ok (.if_icmp .gt 7, 3) := by decide +kernel
theorem dX4_isWithin_10 : decode cX4_isWithin 10 = .ok (.iconst 1, 1) := by decide +kernel
theorem dX4_isWithin_11 : decode cX4_isWithin 11 = .ok (.goto 4, 3) := by decide +kernel
theorem dX4_isWithin_14 : decode cX4_isWithin 14 = .ok (.iconst 0, 1) := by decide +kernel
theorem dX4_isWithin_15 : decode cX4_isWithin 15 = .ok (.ireturn, 1) := by decide +kernel
theorem dX4_slotOf_0 : decode cX4_slotOf 0 = .ok (.iload_n 0, 1) := by decide +kernel
theorem dX4_slotOf_1 : decode cX4_slotOf 1 = .ok (.iconst 4, 1) := by decide +kernel
theorem dX4_slotOf_2 : decode cX4_slotOf 2 = .ok (.imul, 1) := by decide +kernel
theorem dX4_slotOf_3 : decode cX4_slotOf 3 = .ok (.iload_n 1, 1) := by decide +kernel
theorem dX4_slotOf_4 : decode cX4_slotOf 4 = .ok (.iadd, 1) := by decide +kernel
theorem dX4_slotOf_5 : decode cX4_slotOf 5 = .ok (.ireturn, 1) := by decide +kernel
theorem dX4_at_0 : decode cX4_at 0 = .ok (.iload_n 1, 1) := by decide +kernel
theorem dX4_at_1 : decode cX4_at 1 = .ok (.ifCond .lt 15, 3) := by decide +kernel
theorem dX4_at_4 : decode cX4_at 4 = .ok (.iload_n 1, 1) := by decide +kernel
theorem dX4_at_5 : decode cX4_at 5 = .ok (.aload_n 0, 1) := by decide +kernel
theorem dX4_at_6 : decode cX4_at 6 = .ok (.arraylength, 1) := by decide +kernel
theorem dX4_at_7 : decode cX4_at 7 = .ok (.if_icmp .ge 9, 3) := by decide +kernel
theorem dX4_at_10 : decode cX4_at 10 = .ok (.aload_n 0, 1) := by decide +kernel
theorem dX4_at_11 : decode cX4_at 11 = .ok (.iload_n 1, 1) := by decide +kernel
theorem dX4_at_12 : decode cX4_at 12 = .ok (.iaload, 1) := by decide +kernel
theorem dX4_at_13 : decode cX4_at 13 = .ok (.goto 4, 3) := by decide +kernel
theorem dX4_at_16 : decode cX4_at 16 = .ok (.iconst 0, 1) := by decide +kernel
theorem dX4_at_17 : decode cX4_at 17 = .ok (.ireturn, 1) := by decide +kernel
theorem dX4_at__0 : decode cX4_at_ 0 = .ok (.iload_n 1, 1) := by decide +kernel
theorem dX4_at__1 : decode cX4_at_ 1 = .ok (.ifCond .lt 15, 3) := by decide +kernel
theorem dX4_at__4 : decode cX4_at_ 4 = .ok (.iload_n 1, 1) := by decide +kernel
theorem dX4_at__5 : decode cX4_at_ 5 = .ok (.aload_n 0, 1) := by decide +kernel
theorem dX4_at__6 : decode cX4_at_ 6 = .ok (.arraylength, 1) := by decide +kernel
theorem dX4_at__7 : decode cX4_at_ 7 = .ok (.if_icmp .ge 9, 3) := by decide +kernel
theorem dX4_at__10 : decode cX4_at_ 10 = .ok (.aload_n 0, 1) := by decide +kernel
theorem dX4_at__11 : decode cX4_at_ 11 = .ok (.iload_n 1, 1) := by decide +kernel
theorem dX4_at__12 : decode cX4_at_ 12 = .ok (.laload, 1) := by decide +kernel
theorem dX4_at__13 : decode cX4_at_ 13 = .ok (.goto 4, 3) := by decide +kernel
theorem dX4_at__16 : decode cX4_at_ 16 = .ok (.lconst 0, 1) := by decide +kernel
theorem dX4_at__17 : decode cX4_at_ 17 = .ok (.lreturn, 1) := by decide +kernel
theorem dX4_store_0 : decode cX4_store 0 = .ok (.iload_n 1, 1) := by decide +kernel
theorem dX4_store_1 : decode cX4_store 1 = .ok (.ifCond .lt 13, 3) := by decide +kernel
theorem dX4_store_4 : decode cX4_store 4 = .ok (.iload_n 1, 1) := by decide +kernel
theorem dX4_store_5 : decode cX4_store 5 = .ok (.aload_n 0, 1) := by decide +kernel
theorem dX4_store_6 : decode cX4_store 6 = .ok (.arraylength, 1) := by decide +kernel
theorem dX4_store_7 : decode cX4_store 7 = .ok (.if_icmp .ge 7, 3) := by decide +kernel
theorem dX4_store_10 : decode cX4_store 10 = .ok (.aload_n 0, 1) := by decide +kernel
theorem dX4_store_11 : decode cX4_store 11 = .ok (.iload_n 1, 1) := by decide +kernel
theorem dX4_store_12 : decode cX4_store 12 = .ok (.iload_n 2, 1) := by decide +kernel
theorem dX4_store_13 : decode cX4_store 13 = .ok (.iastore, 1) := by decide +kernel
theorem dX4_store_14 : decode cX4_store 14 = .ok (.return_, 1) := by decide +kernel
theorem dX4_store__0 : decode cX4_store_ 0 = .ok (.iload_n 1, 1) := by decide +kernel
theorem dX4_store__1 : decode cX4_store_ 1 = .ok (.ifCond .lt 13, 3) := by decide +kernel
theorem dX4_store__4 : decode cX4_store_ 4 = .ok (.iload_n 1, 1) := by decide +kernel
theorem dX4_store__5 : decode cX4_store_ 5 = .ok (.aload_n 0, 1) := by decide +kernel
theorem dX4_store__6 : decode cX4_store_ 6 = .ok (.arraylength, 1) := by decide +kernel
theorem dX4_store__7 : decode cX4_store_ 7 = .ok (.if_icmp .ge 7, 3) := by decide +kernel
theorem dX4_store__10 : decode cX4_store_ 10 = .ok (.aload_n 0, 1) := by decide +kernel
theorem dX4_store__11 : decode cX4_store_ 11 = .ok (.iload_n 1, 1) := by decide +kernel
theorem dX4_store__12 : decode cX4_store_ 12 = .ok (.lload_n 2, 1) := by decide +kernel
theorem dX4_store__13 : decode cX4_store_ 13 = .ok (.lastore, 1) := by decide +kernel
theorem dX4_store__14 : decode cX4_store_ 14 = .ok (.return_, 1) := by decide +kernel
theorem dJxe99ae_isNaN_b9ae7_0 : decode cJxe99ae_isNaN_b9ae7 0 = .ok (.dload_n 0, 1) := by decide +kernel
theorem dJxe99ae_isNaN_b9ae7_1 : decode cJxe99ae_isNaN_b9ae7 1 = .ok (.dload_n 0, 1) := by decide +kernel
theorem dJxe99ae_isNaN_b9ae7_2 : decode cJxe99ae_isNaN_b9ae7 2 = .ok (.dcmp .l, 1) := by decide +kernel
theorem dJxe99ae_isNaN_b9ae7_3 : decode cJxe99ae_isNaN_b9ae7 3 = .ok (.ifCond .eq 7, 3) := by decide +kernel
theorem dJxe99ae_isNaN_b9ae7_6 : decode cJxe99ae_isNaN_b9ae7 6 = .ok (.iconst 1, 1) := by decide +kernel
theorem dJxe99ae_isNaN_b9ae7_7 : decode cJxe99ae_isNaN_b9ae7 7 = .ok (.goto 4, 3) := by decide +kernel
theorem dJxe99ae_isNaN_b9ae7_10 : decode cJxe99ae_isNaN_b9ae7 10 = .ok (.iconst 0, 1) := by decide +kernel
theorem dJxe99ae_isNaN_b9ae7_11 : decode cJxe99ae_isNaN_b9ae7 11 = .ok (.ireturn, 1) := by decide +kernel
set_option maxRecDepth 20000 in
theorem ggJxe99ae_doubleToLongBits_ccdee_Jxe99ae_isNaN_b9ae7 : GoodIn wsJxe99ae_doubleToLongBits_ccdee wsJxe99ae_isNaN_b9ae7 := goodIn_r _ [9] (by decide +kernel) (by decide +kernel)
set_option maxRecDepth 20000 in
theorem gJxe99ae_doubleToLongBits_ccdee_Jxe99ae_isNaN_b9ae7 : GoodIn wsJxe99ae_doubleToLongBits_ccdee (va_wsS RJxe99ae 122 yJxe99ae_isNaN_b9ae7 wsJxe99ae_isNaN_b9ae7) := goodIn_app (goodIn_of _ (by decide +kernel)) ggJxe99ae_doubleToLongBits_ccdee_Jxe99ae_isNaN_b9ae7
theorem dJxe99ae_doubleToLongBits_ccdee_0 : decode cJxe99ae_doubleToLongBits_ccdee 0 = .ok (.dload_n 0, 1) := by decide +kernel
theorem dJxe99ae_doubleToLongBits_ccdee_1 : decode cJxe99ae_doubleToLongBits_ccdee 1 = .ok (.invokestatic 122, 3) := by decide +kernel
theorem dJxe99ae_doubleToLongBits_ccdee_4 : decode cJxe99ae_doubleToLongBits_ccdee 4 = .ok (.ifCond .ne 8, 3) := by decide +kernel
theorem dJxe99ae_doubleToLongBits_ccdee_7 : decode cJxe99ae_doubleToLongBits_ccdee 7 = .ok (.dload_n 0, 1) := by decide +kernel
theorem dJxe99ae_doubleToLongBits_ccdee_8 : decode cJxe99ae_doubleToLongBits_ccdee 8 = .ok (.invokestatic 134, 3) := by decide +kernel
theorem dJxe99ae_doubleToLongBits_ccdee_11 : decode cJxe99ae_doubleToLongBits_ccdee 11 = .ok (.lreturn, 1) := by decide +kernel
theorem dJxe99ae_doubleToLongBits_ccdee_12 : decode cJxe99ae_doubleToLongBits_ccdee 12 = .ok (.ldc2_w 137, 3) := by decide +kernel
theorem dJxe99ae_doubleToLongBits_ccdee_15 : decode cJxe99ae_doubleToLongBits_ccdee 15 = .ok (.lreturn, 1) := by decide +kernel
theorem dJ9_floorDiv_f86c9_0 : decode cJ9_floorDiv_f86c9 0 = .ok (.lload_n 0, 1) := by decide +kernel
theorem dJ9_floorDiv_f86c9_1 : decode cJ9_floorDiv_f86c9 1 = .ok (.lload_n 2, 1) := by decide +kernel
theorem dJ9_floorDiv_f86c9_2 : decode cJ9_floorDiv_f86c9 2 = .ok (.ldiv, 1) := by decide +kernel
theorem dJ9_floorDiv_f86c9_3 : decode cJ9_floorDiv_f86c9 3 = .ok (.lstore 4, 2) := by decide +kernel
theorem dJ9_floorDiv_f86c9_5 : decode cJ9_floorDiv_f86c9 5 = .ok (.lload_n 0, 1) := by decide +kernel
theorem dJ9_floorDiv_f86c9_6 : decode cJ9_floorDiv_f86c9 6 = .ok (.lload_n 2, 1) := by decide +kernel
theorem dJ9_floorDiv_f86c9_7 : decode cJ9_floorDiv_f86c9 7 = .ok (.lxor, 1) := by decide +kernel
theorem dJ9_floorDiv_f86c9_8 : decode cJ9_floorDiv_f86c9 8 = .ok (.lconst 0, 1) := by decide +kernel
theorem dJ9_floorDiv_f86c9_9 : decode cJ9_floorDiv_f86c9 9 = .ok (.lcmp, 1) := by decide +kernel
theorem dJ9_floorDiv_f86c9_10 : decode cJ9_floorDiv_f86c9 10 = .ok (.ifCond .ge 17, 3) := by decide +kernel
theorem dJ9_floorDiv_f86c9_13 : decode cJ9_floorDiv_f86c9 13 = .ok (.lload 4, 2) := by decide +kernel
theorem dJ9_floorDiv_f86c9_15 : decode cJ9_floorDiv_f86c9 15 = .ok (.lload_n 2, 1) := by decide +kernel
theorem dJ9_floorDiv_f86c9_16 : decode cJ9_floorDiv_f86c9 16 = .ok (.lmul, 1) := by decide +kernel
theorem dJ9_floorDiv_f86c9_17 : decode cJ9_floorDiv_f86c9 17 = .ok (.lload_n 0, 1) := by decide +kernel
theorem dJ9_floorDiv_f86c9_18 : decode cJ9_floorDiv_f86c9 18 = .ok (.lcmp, 1) := by decide +kernel
theorem dJ9_floorDiv_f86c9_19 : decode cJ9_floorDiv_f86c9 19 = .ok (.ifCond .eq 8, 3) := by decide +kernel
theorem dJ9_floorDiv_f86c9_22 : decode cJ9_floorDiv_f86c9 22 = .ok (.lload 4, 2) := by decide +kernel
theorem dJ9_floorDiv_f86c9_24 : decode cJ9_floorDiv_f86c9 24 = .ok (.lconst 1, 1) := by decide +kernel
theorem dJ9_floorDiv_f86c9_25 : decode cJ9_floorDiv_f86c9 25 = .ok (.lsub, 1) := by decide +kernel
theorem dJ9_floorDiv_f86c9_26 : decode cJ9_floorDiv_f86c9 26 = .ok (.lreturn, 1) := by decide +kernel
theorem dJ9_floorDiv_f86c9_27 : decode cJ9_floorDiv_f86c9 27 = .ok (.lload 4, 2) := by decide +kernel
theorem dJ9_floorDiv_f86c9_29 : decode cJ9_floorDiv_f86c9 29 = .ok (.lreturn, 1) := by decide +kernel
theorem dJ9_max_7cf53_0 : decode cJ9_max_7cf53 0 = .ok (.iload_n 0, 1) := by decide +kernel
theorem dJ9_max_7cf53_1 : decode cJ9_max_7cf53 1 = .ok (.iload_n 1, 1) := by decide +kernel
theorem dJ9_max_7cf53_2 : decode cJ9_max_7cf53 2 = .ok (.if_icmp .lt 7, 3) := by decide +kernel
theorem dJ9_max_7cf53_5 : decode cJ9_max_7cf53 5 = .ok (.iload_n 0, 1) := by decide +kernel
theorem dJ9_max_7cf53_6 : decode cJ9_max_7cf53 6 = .ok (.goto 4, 3) := by decide +kernel
theorem dJ9_max_7cf53_9 : decode cJ9_max_7cf53 9 = .ok (.iload_n 1, 1) := by decide +kernel
theorem dJ9_max_7cf53_10 : decode cJ9_max_7cf53 10 = .ok (.ireturn, 1) := by decide +kernel
theorem dJ9_max_f86c9_0 : decode cJ9_max_f86c9 0 = .ok (.lload_n 0, 1) := by decide +kernel
theorem dJ9_max_f86c9_1 : decode cJ9_max_f86c9 1 = .ok (.lload_n 2, 1) := by decide +kernel
theorem dJ9_max_f86c9_2 : decode cJ9_max_f86c9 2 = .ok (.lcmp, 1) := by decide +kernel
theorem dJ9_max_f86c9_3 : decode cJ9_max_f86c9 3 = .ok (.ifCond .lt 7, 3) := by decide +kernel
theorem dJ9_max_f86c9_6 : decode cJ9_max_f86c9 6 = .ok (.lload_n 0, 1) := by decide +kernel
theorem dJ9_max_f86c9_7 : decode cJ9_max_f86c9 7 = .ok (.goto 4, 3) := by decide +kernel
theorem dJ9_max_f86c9_10 : decode cJ9_max_f86c9 10 = .ok (.lload_n 2, 1) := by decide +kernel
theorem dJ9_max_f86c9_11 : decode cJ9_max_f86c9 11 = .ok (.lreturn, 1) := by decide +kernel
theorem dJ9_min_7cf53_0 : decode cJ9_min_7cf53 0 = .ok (.iload_n 0, 1) := by decide +kernel
theorem dJ9_min_7cf53_1 : decode cJ9_min_7cf53 1 = .ok (.iload_n 1, 1) := by decide +kernel
theorem dJ9_min_7cf53_2 : decode cJ9_min_7cf53 2 = .ok (.if_icmp .gt 7, 3) := by decide +kernel
theorem dJ9_min_7cf53_5 : decode cJ9_min_7cf53 5 = .ok (.iload_n 0, 1) := by decide +kernel
theorem dJ9_min_7cf53_6 : decode cJ9_min_7cf53 6 = .ok (.goto 4, 3) := by decide +kernel
theorem dJ9_min_7cf53_9 : decode cJ9_min_7cf53 9 = .ok (.iload_n 1, 1) := by decide +kernel
theorem dJ9_min_7cf53_10 : decode cJ9_min_7cf53 10 = .ok (.ireturn, 1) := by decide +kernel
abbrev vwCl : List vw_C := [(RX0, TX0, 12), (RX1, TX1, 2), (RX2, TX2, 4), (RX3, TX3, 2), (RX4, TX4, 6), (RX5, TX5, 13)]
end
section
/-! my own frame for methods that neither throw nor make cells: worlds in place, one relation for answer and world -/
abbrev q_C : Type := va_G × ClassId × ClassId × ClassId × ClassId
abbrev q_tys (C : q_C) : List (ClassId × FieldType) := [(C.2.1, .int), (C.2.2.1, .long), (C.2.2.2.1, .boolean), (C.2.2.2.2, .object "RestedArms$Board")]
def q_nest : List Cond := [.methodLinkNest RX0 58 yX4_store "RestedArms", .methodLinkNest RX0 62 yX4_at "RestedArms", .methodLinkNest RX0 74 yX4_slotOf "RestedArms", .methodLinkNest RX2 25 yX4_slotOf "RestedArms", .methodLinkNest RX2 33 yX4_store_ "RestedArms", .methodLinkNest RX2 43 yX4_at "RestedArms", .methodLinkNest RX2 64 yX4_at_ "RestedArms", .methodLinkNest RX3 19 yX4_at "RestedArms", .methodLinkNest RX3 27 yX4_slotOf "RestedArms", .methodLinkNest RX3 35 yX4_store "RestedArms", .methodLinkNest RX3 48 yX4_isWithin "RestedArms"]
theorem q_nest_on : ∀ w ∈ q_nest, w.onTables = true := by decide +kernel
theorem q_nest_form : ∀ w ∈ q_nest, ∃ (a : String) (i : Nat) (x : MethodName) (h : String), w = .methodLinkNest a i x h := by
  intro w hw
  simp only [q_nest, List.mem_cons, List.not_mem_nil, or_false] at hw
  rcases hw with rfl | rfl | rfl | rfl | rfl | rfl | rfl | rfl | rfl | rfl | rfl <;> exact ⟨_, _, _, _, rfl⟩
def q_K (C : q_C) (U : State) : Prop := va_K C.1 vwCl (q_tys C) U ∧ ∀ w ∈ q_nest, va_Nw w U
theorem q_K.calling {C : q_C} {U : State} {g : JFrame} {mk : MethodId} {a : Array Value} (h : q_K C U) : q_K C (U.calling g mk a) :=
  ⟨va_K.moved (u := U) (U := U.calling g mk a) (Vm.Alike.refl U.vm) h.1, fun w hw => va_tabs (A := #[]) (A' := #[]) (u := U) (q_nest_on w hw) rfl (show w.before #[] U = true from h.2 w hw)⟩
theorem q_K.warm {C : q_C} {s U : State} (hW : s.WarmedH U.vm) (h : q_K C s) : q_K C U :=
  ⟨va_K.moved hW.alike h.1, fun w hw => by
    obtain ⟨a, i, x, h0, rfl⟩ := q_nest_form w hw
    exact va_Nw.warmM hW (h.2 _ hw)⟩
theorem q_nw {C : q_C} {U : State} (h : q_K C U) (k : Nat) {w : Cond} (hk : q_nest[k]? = some w) : va_Nw w U := h.2 w (List.mem_of_getElem? hk)
def q_Pc (C : q_C) (av : List Value) (ws : va_W) (sz : Nat) : Array Value → State → Prop := va_Pc av (fun U => U.heap.size = sz ∧ va_P C.1 vwCl ws U.heap ∧ q_K C U ∧ va_D (fun _ => True) ws)
theorem q_blind {C : q_C} {av : List Value} {ws : va_W} {sz : Nat} : FrameBlind (q_Pc C av ws sz) := fun _ _ _ _ h => ⟨h.1, h.2.1, h.2.2.1, h.2.2.2.1.calling, h.2.2.2.2⟩
def q_Qc (C : q_C) (ws : va_W) (sz : Nat) (Q : Option Value → va_W → Prop) : Array Value → State → Outcome → State → Prop :=
  fun _ st oc t => (∃ (r : Option Value) (w1 : va_W), oc = .returned r ∧ Q r w1 ∧ w1.map Prod.fst = ws.map Prod.fst ∧ va_P C.1 vwCl w1 t.heap) ∧ va_F (va_A ws sz) st t
/-- a method's contract: from the world ws it answers r and leaves the world w1 with Q r w1; no cell comes, none but those of ws changes -/
def q_M (C : q_C) (l : Launch) (y : MethodName) (w : List Cond) (fr lo : Nat) (av : List Value) (ws : va_W) (Q : Option Value → va_W → Prop) : Prop :=
  ∀ sz : Nat, Met l y w ({ frames := fr, cells := 0, slots := 0, locals := lo }) (q_Pc C av ws sz) (q_Qc C ws sz Q) 0 0 (va_A ws sz)
def q_A (ws : va_W) (s : State) : Nat → Prop := va_A ws s.heap.size
def q_G (C : q_C) (below : List Frame) (ws : va_W) (Q : Option Value → va_W → Prop) (a : Array Value) (s : State) : State → Prop := MQ below (q_Qc C ws s.heap.size Q) a s 0 0 (va_A ws s.heap.size)
abbrev q_R (fr lo : Nat) : Room := { frames := fr, cells := 0, slots := 0, locals := lo }
theorem q_head {C : q_C} {l : Launch} {y : MethodName} {w w' : List Cond} {fr lo : Nat} {av : List Value} {ws : va_W} {Q : Option Value → va_W → Prop} {cc : ByteArray} {maxL : Nat} {ret : Option FieldType}
    (hy : plainFor y = true) (hw : w = Cond.code y cc maxL ret :: w') (hn : (lg_sl av).length ≤ maxL)
    (body : ∀ (p : Program) (e : Env) (s : State) (m : MethodId) (below : List Frame) (meth : Method) (c : Code), p.tables.exec = Jvm.exec → c.code = cc → meth.sig.returnType = ret → meth.locks = false → c.maxLocals = maxL → s.vm.findClass y.cls = some m.cls → (∀ x ∈ w, x.before av.toArray s = true) → q_K C s →
      va_P C.1 vwCl ws s.heap → va_D (q_A ws s) ws → va_S (q_A ws s) s.heap s.heap [] → (∀ q : Nat, s.heap.size ≤ q → q_A ws s q) → ∀ ls : Array Slot, lv_has ls maxL (lv_args 0 av) →
      W p l e (q_R fr lo) s m av.toArray below meth c s.heap [] 0 0 (q_G C below ws Q av.toArray s) (F0 m 0 ls [])) : q_M C l y w fr lo av ws Q := by
  intro sz
  refine va_MetF (cc := cc) (maxL := maxL) (ret := ret) hy hw ?_
  intro p e s m args below meth c s₁ B hml hv
  obtain ⟨rfl, hsz, hP, hK, hD0⟩ := hv
  subst hsz
  rw [lg_entry_eq]
  exact body p e s m below meth c B.exec B.bytes B.returns B.notSynchronized hml (findClass_of_methodNamed B.named) (atoms_spec (ws := w) B.pre) hK hP hD0.self va_S.rf (fun q h => Or.inr h) _ (lv_entry av hn)
theorem q_endQ {C : q_C} {ws w1 : va_W} {Q : Option Value → va_W → Prop} {r : Option Value} {s : State} {H : Heap} {locs : List Loc} {a : Array Value} (hQ : Q r w1) (hN : w1.map Prod.fst = ws.map Prod.fst) (hP : va_P C.1 vwCl w1 H) (hS : va_S (q_A ws s) s.heap H locs) :
    ∀ t : State, t.heap = H → s.WarmedH t.vm → q_Qc C ws s.heap.size Q a s (.returned r) t := fun t ht _ => ⟨⟨r, w1, rfl, hQ, hN, by rw [ht]; exact hP⟩, hS.F ht⟩
section QEnd
variable {p : Program} {l : Launch} {e : Env} {R : Room} {s : State} {m : MethodId} {args : Array Value} {below : List Frame} {meth : Method} {c : Code} {H : Heap} {locs : List Loc} {C : q_C} {ws w1 : va_W} {Q : Option Value → va_W → Prop} {cc : ByteArray} {pc : Nat} {ls : Array Slot}
theorem q_iret {v : Int32} (hx : p.tables.exec = Jvm.exec) (hb : c.code = cc) (hr : meth.sig.returnType = some .int) (hlocks : meth.locks = false) (hP : va_P C.1 vwCl w1 H) (hS : va_S (q_A ws s) s.heap H locs) (hN : w1.map Prod.fst = ws.map Prod.fst) (hdg : decode cc pc = .ok (.ireturn, 1)) (hQ : Q (some (.int v)) w1) : W p l e R s m args below meth c H locs 0 0 (q_G C below ws Q args s) (F0 m pc ls [.int v]) :=
  W.iret hx hb hr (q_endQ hQ hN hP hS) hS.2.2 hdg hlocks
theorem q_zret {v : Int32} (hx : p.tables.exec = Jvm.exec) (hb : c.code = cc) (hr : meth.sig.returnType = some .boolean) (hlocks : meth.locks = false) (hn : narrow .boolean (.int v) = .int v) (hP : va_P C.1 vwCl w1 H) (hS : va_S (q_A ws s) s.heap H locs) (hN : w1.map Prod.fst = ws.map Prod.fst) (hdg : decode cc pc = .ok (.ireturn, 1)) (hQ : Q (some (.int v)) w1) : W p l e R s m args below meth c H locs 0 0 (q_G C below ws Q args s) (F0 m pc ls [.int v]) :=
  W.zret hx hb hr hn (q_endQ hQ hN hP hS) hS.2.2 hdg hlocks
theorem q_lret {v : Int64} (hx : p.tables.exec = Jvm.exec) (hb : c.code = cc) (hr : meth.sig.returnType = some .long) (hlocks : meth.locks = false) (hP : va_P C.1 vwCl w1 H) (hS : va_S (q_A ws s) s.heap H locs) (hN : w1.map Prod.fst = ws.map Prod.fst) (hdg : decode cc pc = .ok (.lreturn, 1)) (hQ : Q (some (.long v)) w1) : W p l e R s m args below meth c H locs 0 0 (q_G C below ws Q args s) (F0 m pc ls [.long v]) :=
  W.lret hx hb hr (q_endQ hQ hN hP hS) hS.2.2 hdg hlocks
theorem q_vret (hx : p.tables.exec = Jvm.exec) (hb : c.code = cc) (hr : meth.sig.returnType = none) (hlocks : meth.locks = false) (hP : va_P C.1 vwCl w1 H) (hS : va_S (q_A ws s) s.heap H locs) (hN : w1.map Prod.fst = ws.map Prod.fst) (hdg : decode cc pc = .ok (.return_, 1)) (hQ : Q none w1) : W p l e R s m args below meth c H locs 0 0 (q_G C below ws Q args s) (F0 m pc ls []) :=
  W.vret hx hb hr (q_endQ hQ hN hP hS) hS.2.2 hdg hlocks
theorem q_aret {v : Value} {rt : FieldType} (hx : p.tables.exec = Jvm.exec) (hb : c.code = cc) (hr : meth.sig.returnType = some rt) (hlocks : meth.locks = false) (hrt : (∃ n, rt = .object n) ∨ ∃ t, rt = .array t) (hv : v = .null ∨ ∃ a, v = .ref a) (hP : va_P C.1 vwCl w1 H) (hS : va_S (q_A ws s) s.heap H locs) (hN : w1.map Prod.fst = ws.map Prod.fst) (hdg : decode cc pc = .ok (.areturn, 1)) (hQ : Q (some v) w1) : W p l e R s m args below meth c H locs 0 0 (q_G C below ws Q args s) (F0 m pc ls [v]) :=
  W.aret hx hb hr hrt hv (q_endQ hQ hN hP hS) hS.2.2 hdg hlocks
end QEnd
/-- a world with the callee's cells put back at their places -/
def q_put (X : va_W) : List Nat → va_W → va_W
  | i :: is, c :: cs => q_put (X.set i c) is cs
  | _, _ => X
theorem q_put_len : ∀ (is : List Nat) (cs X : va_W), (q_put X is cs).length = X.length
  | [], _, _ => by simp [q_put]
  | _ :: _, [], _ => by simp [q_put]
  | i :: is, c :: cs, X => by rw [q_put, q_put_len is cs]; simp
theorem q_put_get : ∀ (is : List Nat) (cs X : va_W) (k : Nat) (q : Nat × va_E), is.length = cs.length → (q_put X is cs)[k]? = some q → (∃ j : Nat, is[j]? = some k ∧ cs[j]? = some q) ∨ (k ∉ is ∧ X[k]? = some q)
  | [], [], X, k, q, _, h => Or.inr ⟨List.not_mem_nil, h⟩
  | [], _ :: _, _, _, _, hl, _ => by simp at hl
  | _ :: _, [], _, _, _, hl, _ => by simp at hl
  | i :: is, c :: cs, X, k, q, hl, h => by
    rw [q_put] at h
    rcases q_put_get is cs (X.set i c) k q (by simpa using hl) h with ⟨j, h1, h2⟩ | ⟨h1, h2⟩
    · exact Or.inl ⟨j + 1, h1, h2⟩
    · by_cases hk : k = i
      · subst hk
        have hlt := (List.getElem?_eq_some_iff.mp h2).1
        rw [List.length_set] at hlt
        rw [List.getElem?_set_self hlt] at h2
        exact Or.inl ⟨0, rfl, h2⟩
      · rw [List.getElem?_set_ne (Ne.symm hk)] at h2
        exact Or.inr ⟨fun hm => (List.mem_cons.mp hm).elim hk h1, h2⟩
theorem q_map_get {is : List Nat} {X wc : va_W} (hC : is.map (fun i => X[i]?) = wc.map some) {j k : Nat} (hj : is[j]? = some k) : ∃ c, wc[j]? = some c ∧ X[k]? = some c := by
  have h1 : (is.map (fun i => X[i]?))[j]? = some X[k]? := by rw [List.getElem?_map, hj]; rfl
  rw [hC, List.getElem?_map] at h1
  cases hw : wc[j]? with
  | none => rw [hw] at h1; cases h1
  | some c => rw [hw] at h1; exact ⟨c, rfl, (Option.some.inj h1).symm⟩
theorem q_fst_get {w1 wc : va_W} (hN : w1.map Prod.fst = wc.map Prod.fst) {j : Nat} {q c : Nat × va_E} (h1 : w1[j]? = some q) (h2 : wc[j]? = some c) : q.1 = c.1 := by
  have e1 : (w1.map Prod.fst)[j]? = some q.1 := by rw [List.getElem?_map, h1]; rfl
  have e2 : (wc.map Prod.fst)[j]? = some c.1 := by rw [List.getElem?_map, h2]; rfl
  rw [hN, e2] at e1
  exact (Option.some.inj e1).symm
theorem q_put_back {D : va_G} {cl : List vw_C} {A0 : Nat → Prop} {X wc w1 : va_W} {H H1 : Heap} (hP : va_P D cl X H) (hD : va_D A0 X) (is : List Nat) (hC : is.map (fun i => X[i]?) = wc.map some) (hN : w1.map Prod.fst = wc.map Prod.fst)
    (hk : ∀ q : Nat, q < H.size → ¬ va_A wc H.size q → H1[q]? = H[q]?) (hP1 : va_P D cl w1 H1) : va_P D cl (q_put X is w1) H1 ∧ va_D A0 (q_put X is w1) := by
  have hlen : is.length = w1.length := by
    have a := congrArg List.length hC
    have b := congrArg List.length hN
    simp only [List.length_map] at a b
    omega
  have key : ∀ (k : Nat) (q : Nat × va_E), (q_put X is w1)[k]? = some q → ∃ c, X[k]? = some c ∧ c.1 = q.1 := by
    intro k q hq
    rcases q_put_get is w1 X k q hlen hq with ⟨j, h1, h2⟩ | ⟨-, h2⟩
    · obtain ⟨c, h3, h4⟩ := q_map_get hC h1
      exact ⟨c, h4, (q_fst_get hN h2 h3).symm⟩
    · exact ⟨q, h2, rfl⟩
  refine ⟨fun k q hq => ?_, fun i j p q hi hj hpq => ?_, fun k q hq => ?_⟩
  · rcases q_put_get is w1 X k q hlen hq with ⟨j, h1, h2⟩ | ⟨h1, h2⟩
    · exact hP1 j q h2
    · refine (hP k q h2).kept (hk q.1 (hP k q h2).lt ?_)
      rintro (⟨j, c, hj⟩ | hge)
      · have hj1 : (wc.map some)[j]? = some (some (q.1, c)) := by rw [List.getElem?_map, hj]; rfl
        rw [← hC, List.getElem?_map] at hj1
        cases hi : is[j]? with
        | none => rw [hi] at hj1; cases hj1
        | some i =>
          rw [hi] at hj1
          have hx : X[i]? = some (q.1, c) := Option.some.inj hj1
          have := hD.1 k i q (q.1, c) h2 hx rfl
          subst this
          exact h1 (List.mem_of_getElem? hi)
      · exact absurd (hP k q h2).lt (Nat.not_lt.mpr hge)
  · obtain ⟨c1, a1, b1⟩ := key i p hi
    obtain ⟨c2, a2, b2⟩ := key j q hj
    exact hD.1 i j c1 c2 a1 a2 (b1.trans (hpq.trans b2.symm))
  · obtain ⟨c1, a1, b1⟩ := key k q hq
    rw [← b1]
    exact hD.2 k c1 a1
theorem q_fm {X : va_W} : ∀ {is : List Nat} {wc : va_W}, is.map (fun i => X[i]?) = wc.map some → is.filterMap (fun i => X[i]?) = wc
  | [], [], _ => rfl
  | [], _ :: _, h => by simp at h
  | _ :: _, [], h => by simp at h
  | i :: is, c :: cs, h => by
    simp only [List.map_cons, List.cons.injEq] at h
    rw [List.filterMap_cons, h.1, q_fm h.2]
section QCall
variable {p : Program} {l : Launch} {e : Env} {R : Room} {s : State} {m : MethodId} {args : Array Value} {below : List Frame} {meth : Method} {c : Code} {H : Heap} {locs : List Loc} {cells slots : Nat} {Q : State → Prop}
variable {pc : Nat} {ls : Array Slot} {rest st0 : List Value} {a : Array Value} {A0 : Nat → Prop} {H0 : Heap}
theorem q_call {C : q_C} {X wc : va_W} {Qm : Option Value → va_W → Prop} (hr : va_Run p l e R s m args below meth c H locs cells slots 0 0 (F0 m pc ls st0) rest (q_Qc C wc H.size Qm a) (va_A wc H.size)) (hP : va_P C.1 vwCl X H) (hD : va_D A0 X) (hS : va_S A0 H0 H locs) (hA : ∀ q, H0.size ≤ q → A0 q)
    (is : List Nat) (hC : is.map (fun i => X[i]?) = wc.map some)
    (kk : ∀ (r : Option Value) (w1 : va_W) (H1 : Heap) (locs1 : List Loc), Qm r w1 → va_P C.1 vwCl (q_put X is w1) H1 → va_D A0 (q_put X is w1) → va_S A0 H0 H1 locs1 → W p l e R s m args below meth c H1 locs1 cells slots Q (F0 m (pc + 3) ls (r.toList ++ rest))) : W p l e R s m args below meth c H locs cells slots Q (F0 m pc ls st0) := by
  intro T hT X0
  obtain ⟨v, st₀, t, T', L, h0, X', hL, e1, e2, ⟨⟨r, w1, hv, hq, hn, hp⟩, hz, hk⟩, st⟩ := hr T hT X0
  cases hv
  rw [h0] at hz hk
  have hf : ∀ q, va_A wc H.size q → A0 q := va_free hD hS hA is hC
  have hp' : va_P C.1 vwCl w1 T'.heap := by rw [e1]; exact hp
  obtain ⟨hP1, hD1⟩ := q_put_back (H1 := T'.heap) hP hD is hC hn (fun q h1 h2 => by rw [e1]; exact hk q h1 h2) hp'
  obtain ⟨t2, a1, b1⟩ := kk v w1 T'.heap (locs ++ L) hq hP1 hD1 ⟨Nat.le_trans hS.1 (by rw [e1]; exact hz), fun q h1 h2 => by
      rw [e1, hk q (Nat.lt_of_lt_of_le h1 hS.1) (fun h3 => h2 (hf q h3))]
      exact hS.2.1 q h1 h2, fun x hx => (List.mem_append.mp hx).elim (fun h => hS.2.2 x h) (fun h => hf _ (hL x h))⟩ T' rfl X'
  exact ⟨t2, st t2 a1, b1⟩
variable {C : q_C} {X wc : va_W} {Qm : Option Value → va_W → Prop} {cc bytes : ByteArray} {nL maxL index n fr lo : Nat} {Ts wM : List Cond} {own CC host : String} {y : MethodName} {ret : Option FieldType} {As : List Value} {b : Nat}
/-- a call by a name: the receiver lies in the world at place q0 -/
theorem q_V (S : CallFix p m c cc nL s args Ts own) (hM : q_M C l y wM fr lo (.ref b :: As) wc Qm) (cw : CallW R s args own CC index y bytes maxL ret wM (q_R fr lo) 0 0 n) (hK : q_K C s) (hP : va_P C.1 vwCl X H) (hD : va_D A0 X) (hS : va_S A0 H0 H locs) (hA : ∀ q, H0.size ≤ q → A0 q)
    (is : List Nat) (hnd : va_nd is = true) (hC : is.map (fun i => X[i]?) = wc.map some) (q0 : Nat) {ci : Nat} {fs : List Value} {q : vw_C} (he : X[q0]? = some (b, .inr (ci, fs))) (hc : vwCl[ci]? = some q) (hq : q.1 = CC)
    (hn : As.length = n) (hsize : ls.size = nL) (hstack : st0 = As.reverse ++ .ref b :: rest) (hW : (rest.map fun v => v.category).sum ≤ 8) (hdg : decode cc pc = .ok (.invokevirtual index, 3)) (hce : cells ≤ R.cells) (hsl : slots ≤ R.slots)
    (kk : ∀ (r : Option Value) (w1 : va_W) (H1 : Heap) (locs1 : List Loc), Qm r w1 → va_P C.1 vwCl (q_put X is w1) H1 → va_D A0 (q_put X is w1) → va_S A0 H0 H1 locs1 → W p l e R s m args below meth c H1 locs1 cells slots Q (F0 m (pc + 3) ls (r.toList ++ rest))) : W p l e R s m args below meth c H locs cells slots Q (F0 m pc ls st0) := by
  have hPc : va_P C.1 vwCl wc H := hP.sub is (q_fm hC)
  have hDc : va_D A0 wc := hD.sub is hnd hC
  have hr := va_recv hK.1 hP hc he
  rw [hq] at hr
  exact q_call (va_runV (rest := rest) S (hM H.size) cw ⟨q_blind, hr, fun U hU hW2 => ⟨rfl, by rw [hU], by rw [hU]; exact hPc, hK.warm hW2, hDc.weaken (fun _ _ _ _ => trivial)⟩⟩ rfl hn hsize hstack (lv_room hW) hdg ⟨hce, hsl⟩) hP hD hS hA is hC kk
/-- a static call within the class -/
theorem q_S (S : CallFix p m c cc nL s args Ts own) (hM : q_M C l y wM fr lo As wc Qm) (cw : CallB R s args own index y bytes maxL ret wM (q_R fr lo) 0 0 n ∧ (Cond.static y).before args s = true) (hK : q_K C s) (hP : va_P C.1 vwCl X H) (hD : va_D A0 X) (hS : va_S A0 H0 H locs) (hA : ∀ q, H0.size ≤ q → A0 q)
    (is : List Nat) (hnd : va_nd is = true) (hC : is.map (fun i => X[i]?) = wc.map some)
    (hn : As.length = n) (hsize : ls.size = nL) (hstack : st0 = As.reverse ++ rest) (hW : (rest.map fun v => v.category).sum ≤ 8) (hdg : decode cc pc = .ok (.invokestatic index, 3)) (hce : cells ≤ R.cells) (hsl : slots ≤ R.slots)
    (kk : ∀ (r : Option Value) (w1 : va_W) (H1 : Heap) (locs1 : List Loc), Qm r w1 → va_P C.1 vwCl (q_put X is w1) H1 → va_D A0 (q_put X is w1) → va_S A0 H0 H1 locs1 → W p l e R s m args below meth c H1 locs1 cells slots Q (F0 m (pc + 3) ls (r.toList ++ rest))) : W p l e R s m args below meth c H locs cells slots Q (F0 m pc ls st0) := by
  have hPc : va_P C.1 vwCl wc H := hP.sub is (q_fm hC)
  have hDc : va_D A0 wc := hD.sub is hnd hC
  exact q_call (va_runS (rest := rest) S (hM H.size) cw ⟨q_blind, fun U hU hW2 => ⟨rfl, by rw [hU], by rw [hU]; exact hPc, hK.warm hW2, hDc.weaken (fun _ _ _ _ => trivial)⟩⟩ rfl hn hsize hstack (lv_room hW) hdg ⟨hce, hsl⟩) hP hD hS hA is hC kk
/-- a static call of a nest mate's private method -/
theorem q_N (S : CallFix p m c cc nL s args Ts own) (hM : q_M C l y wM fr lo As wc Qm) (cw : va_CN R s args own index y host bytes maxL ret wM (q_R fr lo) 0 0 n ∧ (Cond.static y).before args s = true ∧ True) (hK : q_K C s) (hP : va_P C.1 vwCl X H) (hD : va_D A0 X) (hS : va_S A0 H0 H locs) (hA : ∀ q, H0.size ≤ q → A0 q)
    (is : List Nat) (hnd : va_nd is = true) (hC : is.map (fun i => X[i]?) = wc.map some)
    (hn : As.length = n) (hsize : ls.size = nL) (hstack : st0 = As.reverse ++ rest) (hW : (rest.map fun v => v.category).sum ≤ 8) (hdg : decode cc pc = .ok (.invokestatic index, 3)) (hce : cells ≤ R.cells) (hsl : slots ≤ R.slots)
    (kk : ∀ (r : Option Value) (w1 : va_W) (H1 : Heap) (locs1 : List Loc), Qm r w1 → va_P C.1 vwCl (q_put X is w1) H1 → va_D A0 (q_put X is w1) → va_S A0 H0 H1 locs1 → W p l e R s m args below meth c H1 locs1 cells slots Q (F0 m (pc + 3) ls (r.toList ++ rest))) : W p l e R s m args below meth c H locs cells slots Q (F0 m pc ls st0) := by
  have hPc : va_P C.1 vwCl wc H := hP.sub is (q_fm hC)
  have hDc : va_D A0 wc := hD.sub is hnd hC
  exact q_call (va_runSN (rest := rest) S (hM H.size) cw ⟨q_blind, fun U hU hW2 => ⟨rfl, by rw [hU], by rw [hU]; exact hPc, hK.warm hW2, hDc.weaken (fun _ _ _ _ => trivial)⟩⟩ rfl hn hsize hstack (lv_room hW) hdg ⟨hce, hsl⟩) hP hD hS hA is hC kk
end QCall
section QRows
variable {p : Program} {l : Launch} {e : Env} {R : Room} {s : State} {m : MethodId} {args : Array Value} {below : List Frame} {meth : Method} {c : Code} {H : Heap} {locs : List Loc} {cells slots : Nat} {Q : State → Prop}
variable {cc : ByteArray} {pc : Nat} {ls : Array Slot} {rest : List Value} {C : q_C} {X : va_W} {A : Nat → Prop} {H0 : Heap} {a : Nat}
theorem q_ti {x y : Int32} (h : x = y) (k : W p l e R s m args below meth c H locs cells slots Q (F0 m pc ls (.int y :: rest))) : W p l e R s m args below meth c H locs cells slots Q (F0 m pc ls (.int x :: rest)) := by rw [h]; exact k
theorem q_tl {x y : Int64} (h : x = y) (k : W p l e R s m args below meth c H locs cells slots Q (F0 m pc ls (.long y :: rest))) : W p l e R s m args below meth c H locs cells slots Q (F0 m pc ls (.long x :: rest)) := by rw [h]; exact k
theorem q_td {x y : UInt64} (h : x = y) (k : W p l e R s m args below meth c H locs cells slots Q (F0 m pc ls (.double y :: rest))) : W p l e R s m args below meth c H locs cells slots Q (F0 m pc ls (.double x :: rest)) := by rw [h]; exact k
theorem q_iald {n N : Nat} {f : Nat → Int32} {v : Int32} (hx : p.tables.exec = Jvm.exec) (hb : c.code = cc) (hK : q_K C s) (hP : va_P C.1 vwCl X H) (q0 : Nat) (ha : X[q0]? = some (a, .inl (C.2.1, N, .inl f))) (hn : n < N) (hN : N < 2 ^ 31) (hv : f n = v) (hdg : decode cc pc = .ok (.iaload, 1))
    (kk : W p l e R s m args below meth c H locs cells slots Q (F0 m (pc + 1) ls (.int v :: rest))) : W p l e R s m args below meth c H locs cells slots Q (F0 m pc ls (.int (nI n) :: .ref a :: rest)) := by
  refine va_iald hx hb hK.1 hP q0 0 ha rfl (vp_in_nI hn hN) hdg ?_
  rw [nI_clamp (by omega), hv]
  exact kk
theorem q_lald {n N : Nat} {f : Nat → Int64} {v : Int64} (hx : p.tables.exec = Jvm.exec) (hb : c.code = cc) (hK : q_K C s) (hP : va_P C.1 vwCl X H) (q0 : Nat) (ha : X[q0]? = some (a, .inl (C.2.2.1, N, .inr (.inl f)))) (hn : n < N) (hN : N < 2 ^ 31) (hv : f n = v) (hdg : decode cc pc = .ok (.laload, 1))
    (kk : W p l e R s m args below meth c H locs cells slots Q (F0 m (pc + 1) ls (.long v :: rest))) : W p l e R s m args below meth c H locs cells slots Q (F0 m pc ls (.int (nI n) :: .ref a :: rest)) := by
  refine va_lald hx hb hK.1 hP q0 1 ha rfl (vp_in_nI hn hN) hdg ?_
  rw [nI_clamp (by omega), hv]
  exact kk
theorem q_zald {n N : Nat} {f : Nat → Int32} {v : Int32} (hx : p.tables.exec = Jvm.exec) (hb : c.code = cc) (hK : q_K C s) (hP : va_P C.1 vwCl X H) (q0 : Nat) (ha : X[q0]? = some (a, .inl (C.2.2.2.1, N, .inl f))) (hn : n < N) (hN : N < 2 ^ 31) (hv : f n = v) (hdg : decode cc pc = .ok (.baload, 1))
    (kk : W p l e R s m args below meth c H locs cells slots Q (F0 m (pc + 1) ls (.int v :: rest))) : W p l e R s m args below meth c H locs cells slots Q (F0 m pc ls (.int (nI n) :: .ref a :: rest)) := by
  refine va_zald hx hb hK.1 hP q0 2 ha rfl (vp_in_nI hn hN) hdg ?_
  rw [nI_clamp (by omega), hv]
  exact kk
theorem q_iast {n N : Nat} {f : Nat → Int32} {x : Int32} (hx : p.tables.exec = Jvm.exec) (hb : c.code = cc) (hK : q_K C s) (hP : va_P C.1 vwCl X H) (hD : va_D A X) (hS : va_S A H0 H locs) (q0 : Nat) (ha : X[q0]? = some (a, .inl (C.2.1, N, .inl f))) (hn : n < N) (hN : N < 2 ^ 31) (hdg : decode cc pc = .ok (.iastore, 1))
    (kk : ∀ (H1 : Heap) (locs1 : List Loc), va_P C.1 vwCl (X.set q0 (a, .inl (C.2.1, N, .inl (upd f n x)))) H1 → va_D A (X.set q0 (a, .inl (C.2.1, N, .inl (upd f n x)))) → va_S A H0 H1 locs1 → W p l e R s m args below meth c H1 locs1 cells slots Q (F0 m (pc + 1) ls rest)) : W p l e R s m args below meth c H locs cells slots Q (F0 m pc ls (.int x :: .int (nI n) :: .ref a :: rest)) := by
  refine va_iast hx hb hK.1 hP hD hS q0 0 ha rfl (vp_in_nI hn hN) hdg ?_
  rw [nI_clamp (by omega)]
  exact kk
theorem q_last {n N : Nat} {f : Nat → Int64} {x : Int64} (hx : p.tables.exec = Jvm.exec) (hb : c.code = cc) (hK : q_K C s) (hP : va_P C.1 vwCl X H) (hD : va_D A X) (hS : va_S A H0 H locs) (q0 : Nat) (ha : X[q0]? = some (a, .inl (C.2.2.1, N, .inr (.inl f)))) (hn : n < N) (hN : N < 2 ^ 31) (hdg : decode cc pc = .ok (.lastore, 1))
    (kk : ∀ (H1 : Heap) (locs1 : List Loc), va_P C.1 vwCl (X.set q0 (a, .inl (C.2.2.1, N, .inr (.inl (vp_updL f n x))))) H1 → va_D A (X.set q0 (a, .inl (C.2.2.1, N, .inr (.inl (vp_updL f n x))))) → va_S A H0 H1 locs1 → W p l e R s m args below meth c H1 locs1 cells slots Q (F0 m (pc + 1) ls rest)) : W p l e R s m args below meth c H locs cells slots Q (F0 m pc ls (.long x :: .int (nI n) :: .ref a :: rest)) := by
  refine va_last hx hb hK.1 hP hD hS q0 1 ha rfl (vp_in_nI hn hN) hdg ?_
  rw [nI_clamp (by omega)]
  exact kk
theorem q_zast {n N : Nat} {f : Nat → Int32} {x : Int32} (hx : p.tables.exec = Jvm.exec) (hb : c.code = cc) (hK : q_K C s) (hP : va_P C.1 vwCl X H) (hD : va_D A X) (hS : va_S A H0 H locs) (q0 : Nat) (ha : X[q0]? = some (a, .inl (C.2.2.2.1, N, .inl f))) (hn : n < N) (hN : N < 2 ^ 31) (hz : vp_nar .boolean x = x) (hdg : decode cc pc = .ok (.bastore, 1))
    (kk : ∀ (H1 : Heap) (locs1 : List Loc), va_P C.1 vwCl (X.set q0 (a, .inl (C.2.2.2.1, N, .inl (upd f n x)))) H1 → va_D A (X.set q0 (a, .inl (C.2.2.2.1, N, .inl (upd f n x)))) → va_S A H0 H1 locs1 → W p l e R s m args below meth c H1 locs1 cells slots Q (F0 m (pc + 1) ls rest)) : W p l e R s m args below meth c H locs cells slots Q (F0 m pc ls (.int x :: .int (nI n) :: .ref a :: rest)) := by
  refine va_zast hx hb hK.1 hP hD hS q0 2 ha rfl (vp_in_nI hn hN) hdg ?_
  rw [nI_clamp (by omega), hz]
  exact kk
end QRows
/-! truth values -/
def q_b (b : Bool) : Int32 := if b = true then 1 else 0
theorem q_b0 {b : Bool} : q_b b = 0 ↔ b = false := by cases b <;> simp [q_b]
theorem q_b1 {b : Bool} : ¬ q_b b = 0 ↔ b = true := by cases b <;> simp [q_b]
theorem q_bn {b : Bool} : narrow .boolean (.int (q_b b)) = .int (q_b b) := by cases b <;> rfl
theorem q_bt {b : Bool} (h : b = true) : nI 1 = q_b b := by rw [h]; decide
theorem q_bf {b : Bool} (h : b = false) : nI 0 = q_b b := by rw [h]; decide
/-! comparisons of numbers that are known as Nat -/
theorem q_nlt {a b : Nat} (ha : a < 2 ^ 31) (hb : b < 2 ^ 31) (h : nI a < nI b) : a < b := (nI_ltI ha hb).mp h
theorem q_nlt' {a b : Nat} (ha : a < 2 ^ 31) (hb : b < 2 ^ 31) (h : ¬ nI a < nI b) : b ≤ a := Nat.not_lt.mp fun q => h ((nI_ltI ha hb).mpr q)
theorem q_nge {a b : Nat} (ha : a < 2 ^ 31) (hb : b < 2 ^ 31) (h : nI b ≤ nI a) : b ≤ a := (nI_leI hb ha).mp h
theorem q_nge' {a b : Nat} (ha : a < 2 ^ 31) (hb : b < 2 ^ 31) (h : ¬ nI b ≤ nI a) : a < b := Nat.not_le.mp fun q => h ((nI_leI hb ha).mpr q)
theorem q_ngt {a b : Nat} (ha : a < 2 ^ 31) (hb : b < 2 ^ 31) (h : nI b < nI a) : b < a := (nI_ltI hb ha).mp h
theorem q_ngt' {a b : Nat} (ha : a < 2 ^ 31) (hb : b < 2 ^ 31) (h : ¬ nI b < nI a) : a ≤ b := Nat.not_lt.mp fun q => h ((nI_ltI hb ha).mpr q)
theorem q_nle {a b : Nat} (ha : a < 2 ^ 31) (hb : b < 2 ^ 31) (h : nI a ≤ nI b) : a ≤ b := (nI_leI ha hb).mp h
theorem q_nle' {a b : Nat} (ha : a < 2 ^ 31) (hb : b < 2 ^ 31) (h : ¬ nI a ≤ nI b) : b < a := Nat.not_le.mp fun q => h ((nI_leI ha hb).mpr q)
theorem q_neq {a b : Nat} (ha : a < 2 ^ 31) (hb : b < 2 ^ 31) (h : nI a = nI b) : a = b := (nI_eq ha hb).mp h
theorem q_neq' {a b : Nat} (ha : a < 2 ^ 31) (hb : b < 2 ^ 31) (h : ¬ nI a = nI b) : a ≠ b := fun q => h ((nI_eq ha hb).mpr q)
theorem q_nne {a b : Nat} (ha : a < 2 ^ 31) (hb : b < 2 ^ 31) (h : ¬ nI a = nI b) : a ≠ b := q_neq' ha hb h
theorem q_nne' {a b : Nat} (ha : a < 2 ^ 31) (hb : b < 2 ^ 31) (h : nI a = nI b) : a = b := q_neq ha hb h
theorem q_nlt0 {a : Nat} (ha : a < 2 ^ 31) (hb : 0 < 2 ^ 31) (h : nI a < 0) : a < 0 := q_nlt ha hb (nI_0 ▸ h)
theorem q_nlt0' {a : Nat} (ha : a < 2 ^ 31) (hb : 0 < 2 ^ 31) (h : ¬ nI a < 0) : 0 ≤ a := Nat.zero_le _
theorem q_nge0 {a : Nat} (ha : a < 2 ^ 31) (hb : 0 < 2 ^ 31) (h : 0 ≤ nI a) : 0 ≤ a := Nat.zero_le _
theorem q_nge0' {a : Nat} (ha : a < 2 ^ 31) (hb : 0 < 2 ^ 31) (h : ¬ 0 ≤ nI a) : a < 0 := absurd (nI_pos' ha) h
theorem q_ngt0 {a : Nat} (ha : a < 2 ^ 31) (hb : 0 < 2 ^ 31) (h : 0 < nI a) : 0 < a := q_ngt ha hb (nI_0.symm ▸ h)
theorem q_ngt0' {a : Nat} (ha : a < 2 ^ 31) (hb : 0 < 2 ^ 31) (h : ¬ 0 < nI a) : a ≤ 0 := q_ngt' ha hb (nI_0.symm ▸ h)
theorem q_nle0 {a : Nat} (ha : a < 2 ^ 31) (hb : 0 < 2 ^ 31) (h : nI a ≤ 0) : a ≤ 0 := q_nle ha hb (nI_0.symm ▸ h)
theorem q_nle0' {a : Nat} (ha : a < 2 ^ 31) (hb : 0 < 2 ^ 31) (h : ¬ nI a ≤ 0) : 0 < a := q_nle' ha hb (nI_0.symm ▸ h)
theorem q_neq0 {a : Nat} (ha : a < 2 ^ 31) (hb : 0 < 2 ^ 31) (h : nI a = 0) : a = 0 := q_neq ha hb (nI_0.symm ▸ h)
theorem q_neq0' {a : Nat} (ha : a < 2 ^ 31) (hb : 0 < 2 ^ 31) (h : ¬ nI a = 0) : a ≠ 0 := q_neq' ha hb (nI_0.symm ▸ h)
theorem q_nne0 {a : Nat} (ha : a < 2 ^ 31) (hb : 0 < 2 ^ 31) (h : ¬ nI a = 0) : a ≠ 0 := q_neq0' ha hb h
theorem q_nne0' {a : Nat} (ha : a < 2 ^ 31) (hb : 0 < 2 ^ 31) (h : nI a = 0) : a = 0 := q_neq0 ha hb h
theorem q_llt {x y : Int64} (h : lg_cmp x y < 0) : x < y := (lg_cmp_lt x y).mp h
theorem q_llt' {x y : Int64} (h : ¬ lg_cmp x y < 0) : y ≤ x := Int64.not_lt.mp fun q => h ((lg_cmp_lt x y).mpr q)
theorem q_lge {x y : Int64} (h : 0 ≤ lg_cmp x y) : y ≤ x := (lg_cmp_ge x y).mp h
theorem q_lge' {x y : Int64} (h : ¬ 0 ≤ lg_cmp x y) : x < y := Int64.not_le.mp fun q => h ((lg_cmp_ge x y).mpr q)
theorem q_lgt {x y : Int64} (h : 0 < lg_cmp x y) : y < x := (lg_cmp_gt x y).mp h
theorem q_lgt' {x y : Int64} (h : ¬ 0 < lg_cmp x y) : x ≤ y := Int64.not_lt.mp fun q => h ((lg_cmp_gt x y).mpr q)
theorem q_lle {x y : Int64} (h : lg_cmp x y ≤ 0) : x ≤ y := (lg_cmp_le x y).mp h
theorem q_lle' {x y : Int64} (h : ¬ lg_cmp x y ≤ 0) : y < x := Int64.not_le.mp fun q => h ((lg_cmp_le x y).mpr q)
theorem q_leq {x y : Int64} (h : lg_cmp x y = 0) : x = y := (lg_cmp_eq x y).mp h
theorem q_leq' {x y : Int64} (h : ¬ lg_cmp x y = 0) : x ≠ y := fun q => h ((lg_cmp_eq x y).mpr q)
theorem q_lne {x y : Int64} (h : ¬ lg_cmp x y = 0) : x ≠ y := q_leq' h
theorem q_lne' {x y : Int64} (h : lg_cmp x y = 0) : x = y := q_leq h
theorem q_Llt {a b : Nat} (ha : a < 2 ^ 63) (hb : b < 2 ^ 63) (h : lg_cmp (lN a) (lN b) < 0) : a < b := (pk_lLT ha hb).mp (q_llt h)
theorem q_Llt' {a b : Nat} (ha : a < 2 ^ 63) (hb : b < 2 ^ 63) (h : ¬ lg_cmp (lN a) (lN b) < 0) : b ≤ a := (pk_lLE hb ha).mp (q_llt' h)
theorem q_Lge {a b : Nat} (ha : a < 2 ^ 63) (hb : b < 2 ^ 63) (h : 0 ≤ lg_cmp (lN a) (lN b)) : b ≤ a := (pk_lLE hb ha).mp (q_lge h)
theorem q_Lge' {a b : Nat} (ha : a < 2 ^ 63) (hb : b < 2 ^ 63) (h : ¬ 0 ≤ lg_cmp (lN a) (lN b)) : a < b := (pk_lLT ha hb).mp (q_lge' h)
theorem q_Lgt {a b : Nat} (ha : a < 2 ^ 63) (hb : b < 2 ^ 63) (h : 0 < lg_cmp (lN a) (lN b)) : b < a := (pk_lLT hb ha).mp (q_lgt h)
theorem q_Lgt' {a b : Nat} (ha : a < 2 ^ 63) (hb : b < 2 ^ 63) (h : ¬ 0 < lg_cmp (lN a) (lN b)) : a ≤ b := (pk_lLE ha hb).mp (q_lgt' h)
theorem q_Lle {a b : Nat} (ha : a < 2 ^ 63) (hb : b < 2 ^ 63) (h : lg_cmp (lN a) (lN b) ≤ 0) : a ≤ b := (pk_lLE ha hb).mp (q_lle h)
theorem q_Lle' {a b : Nat} (ha : a < 2 ^ 63) (hb : b < 2 ^ 63) (h : ¬ lg_cmp (lN a) (lN b) ≤ 0) : b < a := (pk_lLT hb ha).mp (q_lle' h)
theorem q_Leq {a b : Nat} (ha : a < 2 ^ 63) (hb : b < 2 ^ 63) (h : lg_cmp (lN a) (lN b) = 0) : a = b := (pk_lEQ ha hb).mp (q_leq h)
theorem q_Leq' {a b : Nat} (ha : a < 2 ^ 63) (hb : b < 2 ^ 63) (h : ¬ lg_cmp (lN a) (lN b) = 0) : a ≠ b := fun q => q_leq' h ((pk_lEQ ha hb).mpr q)
theorem q_Lne {a b : Nat} (ha : a < 2 ^ 63) (hb : b < 2 ^ 63) (h : ¬ lg_cmp (lN a) (lN b) = 0) : a ≠ b := q_Leq' ha hb h
theorem q_Lne' {a b : Nat} (ha : a < 2 ^ 63) (hb : b < 2 ^ 63) (h : lg_cmp (lN a) (lN b) = 0) : a = b := q_Leq ha hb h
theorem q_lmax {a b : Nat} (ha : a < 2 ^ 63) (hb : b < 2 ^ 63) : (if lN b < lN a then lN a else lN b) = lN (max a b) := by
  by_cases h : b < a
  · rw [if_pos ((pk_lLT hb ha).mpr h), Nat.max_eq_left (Nat.le_of_lt h)]
  · rw [if_neg (fun q => h ((pk_lLT hb ha).mp q)), Nat.max_eq_right (Nat.not_lt.mp h)]
end
section
/-! the state of a board as numbers: gifts, goods, bads, chances, places, pulls, settings; changes, last + 1, brought, weight, row -/
def upN (f : Nat → Nat) (k v : Nat) : Nat → Nat := fun j => if j = k then v else f j
theorem upN_s (f : Nat → Nat) (k v : Nat) : upN f k v k = v := by simp [upN]
theorem upN_n {f : Nat → Nat} {k v j : Nat} (h : j ≠ k) : upN f k v j = f j := by simp [upN, h]
theorem q_upd (f : Nat → Nat) (k v : Nat) : upd (fun j => nI (f j)) k (nI v) = fun j => nI (upN f k v j) := by
  funext j
  by_cases h : j = k
  · subst h; rw [pk_us, upN_s]
  · rw [pk_un h, upN_n h]
theorem q_updL (f : Nat → Nat) (k v : Nat) : vp_updL (fun j => lN (f j)) k (lN v) = fun j => lN (upN f k v j) := by
  funext j
  by_cases h : j = k
  · subst h; rw [pk_uLs, upN_s]
  · rw [pk_uLn h, upN_n h]
abbrev Bd : Type := (Nat → Nat) × (Nat → Nat) × (Nat → Nat) × (Nat → Nat) × (Nat → Nat) × (Nat → Nat) × (Nat → Nat) × Nat × Nat × Int64 × Nat × Int64
abbrev bg (b : Bd) : Nat → Nat := b.1
abbrev bo (b : Bd) : Nat → Nat := b.2.1
abbrev bb (b : Bd) : Nat → Nat := b.2.2.1
abbrev bc (b : Bd) : Nat → Nat := b.2.2.2.1
abbrev bp (b : Bd) : Nat → Nat := b.2.2.2.2.1
abbrev bu (b : Bd) : Nat → Nat := b.2.2.2.2.2.1
abbrev bs (b : Bd) : Nat → Nat := b.2.2.2.2.2.2.1
abbrev bx (b : Bd) : Nat := b.2.2.2.2.2.2.2.1
abbrev bl (b : Bd) : Nat := b.2.2.2.2.2.2.2.2.1
abbrev br (b : Bd) : Int64 := b.2.2.2.2.2.2.2.2.2.1
abbrev bw (b : Bd) : Nat := b.2.2.2.2.2.2.2.2.2.2.1
abbrev bz (b : Bd) : Int64 := b.2.2.2.2.2.2.2.2.2.2.2
abbrev mkB (g o bd c p u st : Nat → Nat) (x la : Nat) (r : Int64) (w : Nat) (z : Int64) : Bd := (g, o, bd, c, p, u, st, x, la, r, w, z)
abbrev sg (b : Bd) (v : Nat → Nat) : Bd := mkB v (bo b) (bb b) (bc b) (bp b) (bu b) (bs b) (bx b) (bl b) (br b) (bw b) (bz b)
abbrev so (b : Bd) (v : Nat → Nat) : Bd := mkB (bg b) v (bb b) (bc b) (bp b) (bu b) (bs b) (bx b) (bl b) (br b) (bw b) (bz b)
abbrev sb (b : Bd) (v : Nat → Nat) : Bd := mkB (bg b) (bo b) v (bc b) (bp b) (bu b) (bs b) (bx b) (bl b) (br b) (bw b) (bz b)
abbrev sc (b : Bd) (v : Nat → Nat) : Bd := mkB (bg b) (bo b) (bb b) v (bp b) (bu b) (bs b) (bx b) (bl b) (br b) (bw b) (bz b)
abbrev sp (b : Bd) (v : Nat → Nat) : Bd := mkB (bg b) (bo b) (bb b) (bc b) v (bu b) (bs b) (bx b) (bl b) (br b) (bw b) (bz b)
abbrev su (b : Bd) (v : Nat → Nat) : Bd := mkB (bg b) (bo b) (bb b) (bc b) (bp b) v (bs b) (bx b) (bl b) (br b) (bw b) (bz b)
abbrev ss (b : Bd) (v : Nat → Nat) : Bd := mkB (bg b) (bo b) (bb b) (bc b) (bp b) (bu b) v (bx b) (bl b) (br b) (bw b) (bz b)
abbrev sx (b : Bd) (v : Nat) : Bd := mkB (bg b) (bo b) (bb b) (bc b) (bp b) (bu b) (bs b) v (bl b) (br b) (bw b) (bz b)
abbrev sl (b : Bd) (v : Nat) : Bd := mkB (bg b) (bo b) (bb b) (bc b) (bp b) (bu b) (bs b) (bx b) v (br b) (bw b) (bz b)
abbrev sr (b : Bd) (v : Int64) : Bd := mkB (bg b) (bo b) (bb b) (bc b) (bp b) (bu b) (bs b) (bx b) (bl b) v (bw b) (bz b)
abbrev sw (b : Bd) (v : Nat) : Bd := mkB (bg b) (bo b) (bb b) (bc b) (bp b) (bu b) (bs b) (bx b) (bl b) (br b) v (bz b)
abbrev sz (b : Bd) (v : Int64) : Bd := mkB (bg b) (bo b) (bb b) (bc b) (bp b) (bu b) (bs b) (bx b) (bl b) (br b) (bw b) v
/-- the cells of a board: the object at a 0, its seven rows at a 1 .. a 7 -/
abbrev wB (C : q_C) (a : Nat → Nat) (b : Bd) : va_W := [(a 0, .inr (0, [.ref (a 1), .ref (a 2), .ref (a 3), .ref (a 4), .ref (a 5), .ref (a 6), .ref (a 7), .int (nI (bx b)), .int (nI (bl b) - 1), .long (br b), .long (lN (bw b)), .long (bz b)])), (a 1, .inl (C.2.1, 16, .inl (fun k => nI (bg b k)))), (a 2, .inl (C.2.1, 16, .inl (fun k => nI (bo b k)))), (a 3, .inl (C.2.1, 16, .inl (fun k => nI (bb b k)))), (a 4, .inl (C.2.1, 16, .inl (fun k => nI (bc b k)))), (a 5, .inl (C.2.1, 4, .inl (fun k => nI (bp b k)))), (a 6, .inl (C.2.1, 4, .inl (fun k => nI (bu b k)))), (a 7, .inl (C.2.1, 4, .inl (fun k => nI (bs b k))))]
/-- what holds of every board: ranges -/
def OkB (b : Bd) : Prop := (∀ k, k < 16 → bg b k ≤ 99 ∧ bo b k < 4 ∧ bb b k < 4 ∧ bc b k ≤ 8) ∧ (∀ k, k < 4 → bp b k < 4) ∧ (bs b 0 ≤ 99 ∧ 1 ≤ bs b 1 ∧ bs b 1 ≤ 60 ∧ bs b 2 ≤ 99 ∧ bs b 3 ≤ 1) ∧ bl b ≤ 4 ∧ bw b ≤ 1000000
theorem q_las {k : Nat} (h : k < 2 ^ 31) : nI k - 1 = (-1) ↔ k = 0 := by
  constructor
  · intro e
    have e2 : nI k = nI 0 := by
      have := congrArg (fun z : Int32 => z + 1) e
      simpa [nI_0] using this
    exact (nI_eq h (by decide)).mp e2
  · intro e; subst e; decide
theorem q_las2 {k a : Nat} (h : k < 2 ^ 31) (ha : a + 1 < 2 ^ 31) : nI k - 1 = nI a ↔ k = a + 1 := by
  constructor
  · intro e
    have e2 : nI k = nI (a + 1) := by
      rw [nI_succ, ← e]; simp
    exact (nI_eq h ha).mp e2
  · intro e; subst e; exact nI_pred a
/-! pulls -/
/-- JDK's floorDiv over longs -/
def fdv (x y : Int64) : Int64 := if (x ^^^ y) < 0 ∧ x / y * y ≠ x then x / y - 1 else x / y
theorem nextX_ex (x : Int64) : ∃ y : Int64, y = x * 6364136223846793005 + 1442695040888963407 := ⟨_, rfl⟩
/-- the next of the row of chances (held back from unfolding) -/
noncomputable def nextX (x : Int64) : Int64 := Classical.choose (nextX_ex x)
theorem nextX_eq (x : Int64) : nextX x = x * 6364136223846793005 + 1442695040888963407 := Classical.choose_spec (nextX_ex x)
noncomputable def drawn (x : Int64) : Nat := (nextX x).toUInt64.toNat / 2 ^ 61
noncomputable def goB (b : Bd) (arm : Nat) : Bd := sz (sp b (upN (bp b) arm (if drawn (bz b) < bc b (4 * arm + bp b arm) then bo b (4 * arm + bp b arm) else bb b (4 * arm + bp b arm)))) (nextX (bz b))
def othB (b : Bd) (arm : Nat) : Bool := decide (bl b ≠ 0 ∧ bl b ≠ arm + 1)
/-- what a pull of the arm brings, the weight, the arm that was pulled last, the pulls; nothing has gone on yet -/
def pul0 (b : Bd) (arm : Nat) : Bd :=
  mkB (bg b) (bo b) (bb b) (bc b) (bp b) (upN (bu b) arm (bu b arm + 1)) (bs b) (if othB b arm = true then bx b + 1 else bx b) (arm + 1)
    (br b + fdv ((if othB b arm = true then lN (1000 * bg b (4 * arm + bp b arm)) - lN (1000 * bs b 2) else lN (1000 * bg b (4 * arm + bp b arm))) * lN (bw b)) (lN 1000000)) (bw b * bs b 0 / 100) (bz b)
noncomputable def rest1 (b : Bd) (arm o : Nat) : Bd := if o ≠ arm then goB b o else b
noncomputable def restN (b : Bd) (arm : Nat) : Nat → Bd
  | 0 => b
  | o + 1 => rest1 (restN b arm o) arm o
noncomputable def pulB (b : Bd) (arm : Nat) : Bd := if bs b 3 = 1 then restN (goB (pul0 b arm) arm) arm 4 else goB (pul0 b arm) arm
def begB (b : Bd) (x : Int64) : Bd := mkB (bg b) (bo b) (bb b) (bc b) (upN (upN (upN (upN (bp b) 0 0) 1 0) 2 0) 3 0) (upN (upN (upN (upN (bu b) 0 0) 1 0) 2 0) 3 0) (bs b) 0 0 0 1000000 x
def sumU (b : Bd) : Nat := bu b 0 + bu b 1 + bu b 2 + bu b 3
def costB (b : Bd) (arm rule : Nat) : Nat := if othB b arm = true then (if rule = 0 then 10 * bs b 2 * (100 - bs b 0) else bs b 2) else 0
theorem okB_goB {b : Bd} (h : OkB b) (o : Nat) (ho : o < 4) : OkB (goB b o) := by
  obtain ⟨h1, h2, h3, h4, h5⟩ := h
  refine ⟨h1, fun k hk => ?_, h3, h4, h5⟩
  show upN (bp b) o _ k < 4
  have hp := h2 o ho
  have hs := h1 (4 * o + bp b o) (by omega)
  by_cases e : k = o
  · subst e
    rw [upN_s]
    split
    · exact hs.2.1
    · exact hs.2.2.1
  · rw [upN_n e]
    exact h2 k hk
theorem okB_pul0 {b : Bd} (h : OkB b) (o : Nat) (ho : o < 4) : OkB (pul0 b o) := by
  obtain ⟨h1, h2, h3, h4, h5⟩ := h
  refine ⟨h1, h2, h3, by show o + 1 ≤ 4; omega, ?_⟩
  show bw b * bs b 0 / 100 ≤ 1000000
  have := Nat.mul_le_mul h5 h3.1
  omega
theorem okB_restN {b : Bd} (h : OkB b) (arm : Nat) : ∀ n, n ≤ 4 → OkB (restN b arm n)
  | 0, _ => h
  | n + 1, hn => by
    show OkB (rest1 (restN b arm n) arm n)
    unfold rest1
    split
    · exact okB_goB (okB_restN h arm n (by omega)) n (by omega)
    · exact okB_restN h arm n (by omega)
theorem bs_goB (b : Bd) (o : Nat) : bs (goB b o) = bs b := rfl
theorem bs_pul0 (b : Bd) (o : Nat) : bs (pul0 b o) = bs b := rfl
theorem okB_pulB {b : Bd} (h : OkB b) (o : Nat) (ho : o < 4) : OkB (pulB b o) := by
  unfold pulB
  split
  · exact okB_restN (okB_goB (okB_pul0 h o ho) o ho) o 4 (by omega)
  · exact okB_goB (okB_pul0 h o ho) o ho
theorem fdv_N {a b : Nat} (ha : a < 2 ^ 63) (h0 : 0 < b) (hb : b < 2 ^ 63) : fdv (lN a) (lN b) = lN (a / b) := by
  have e : lN a / lN b = lN (a / b) := pk_lDiv ha h0 hb
  rw [fdv, if_neg, e]
  rintro ⟨h1, -⟩
  have ta : (lN a).toBitVec.msb = false := by
    rw [BitVec.msb_eq_false_iff_two_mul_lt]
    have : (lN a).toBitVec.toNat = a := by
      show (BitVec.ofNat 64 a).toNat = a
      rw [BitVec.toNat_ofNat]; omega
    omega
  have tb : (lN b).toBitVec.msb = false := by
    rw [BitVec.msb_eq_false_iff_two_mul_lt]
    have : (lN b).toBitVec.toNat = b := by
      show (BitVec.ofNat 64 b).toNat = b
      rw [BitVec.toNat_ofNat]; omega
    omega
  have h2 : ((lN a).toBitVec ^^^ (lN b).toBitVec).toInt < 0 := by
    have h3 := Int64.lt_iff_toInt_lt.mp h1
    exact h3
  have h4 : ((lN a).toBitVec ^^^ (lN b).toBitVec).msb = false := by rw [BitVec.msb_xor, ta, tb]; rfl
  rw [BitVec.toInt_eq_msb_cond, h4] at h2
  simp at h2
  omega
theorem q_lt8 : ∀ n : Nat, n < 8 → (UInt64.ofNat n).toInt64.toInt32 = nI n := by decide +kernel
theorem q_drawn (x : Int64) : (((nextX x).toUInt64 >>> ((nI 61).toInt64.toUInt64 &&& Int64.toUInt64 63)).toInt64).toInt32 = nI (drawn x) := by
  have e61 : ((nI 61).toInt64.toUInt64 &&& Int64.toUInt64 63) = 61 := by decide +kernel
  rw [e61]

  show (((nextX x).toUInt64 >>> 61).toInt64).toInt32 = nI ((nextX x).toUInt64.toNat / 2 ^ 61)
  generalize (nextX x).toUInt64 = u
  have hn : (u >>> 61).toNat = u.toNat / 2 ^ 61 := by
    rw [UInt64.toNat_shiftRight, Nat.shiftRight_eq_div_pow]
    rfl
  have hlt : u.toNat / 2 ^ 61 < 8 := by
    have := u.toNat_lt
    omega
  have hu : u >>> 61 = UInt64.ofNat (u.toNat / 2 ^ 61) := by rw [← hn, UInt64.ofNat_toNat]
  rw [hu]
  exact q_lt8 _ hlt
theorem drawn_lt (x : Int64) : drawn x < 8 := by
  unfold drawn
  have := (nextX x).toUInt64.toNat_lt
  omega
end
section
/-! a row's contents matter in its range alone -/
theorem q_cellI {c : ClassId} {N : Nat} {f g : Nat → Int32} (h : ∀ k, k < N → f k = g k) : vp_cell c (N, .inl f) = vp_cell c (N, .inl g) := by
  show arrV c N (fun j => .int (f j)) = arrV c N (fun j => .int (g j))
  unfold arrV
  congr 2
  funext j
  exact congrArg Value.int (h j.1 j.2)
theorem q_cellL {c : ClassId} {N : Nat} {f g : Nat → Int64} (h : ∀ k, k < N → f k = g k) : vp_cell c (N, .inr (.inl f)) = vp_cell c (N, .inr (.inl g)) := by
  show arrV c N (fun j => .long (f j)) = arrV c N (fun j => .long (g j))
  unfold arrV
  congr 2
  funext j
  exact congrArg Value.long (h j.1 j.2)
theorem q_swp {D : va_G} {cl : List vw_C} {X : va_W} {H : Heap} {q0 a : Nat} {x y : ClassId × vp_A} (hP : va_P D cl X H) (ha : X[q0]? = some (a, .inl x)) (h : vp_cell x.1 x.2 = vp_cell y.1 y.2) : va_P D cl (X.set q0 (a, .inl y)) H := by
  intro k q hk
  by_cases hkp : k = q0
  · subst hkp
    rw [List.getElem?_set_self (List.getElem?_eq_some_iff.mp ha).1] at hk
    cases hk
    have := hP k _ ha
    show H[a]? = some (vp_cell y.1 y.2)
    rw [← h]
    exact this
  · rw [List.getElem?_set_ne (Ne.symm hkp)] at hk
    exact hP k q hk
theorem q_swpI {D : va_G} {cl : List vw_C} {X : va_W} {H : Heap} {a N : Nat} {c : ClassId} {f g : Nat → Int32} (hP : va_P D cl X H) (q0 : Nat) (ha : X[q0]? = some (a, .inl (c, N, .inl f))) (h : ∀ k, k < N → f k = g k) : va_P D cl (X.set q0 (a, .inl (c, N, .inl g))) H := q_swp hP ha (q_cellI h)
theorem q_swpL {D : va_G} {cl : List vw_C} {X : va_W} {H : Heap} {a N : Nat} {c : ClassId} {f g : Nat → Int64} (hP : va_P D cl X H) (q0 : Nat) (ha : X[q0]? = some (a, .inl (c, N, .inr (.inl f)))) (h : ∀ k, k < N → f k = g k) : va_P D cl (X.set q0 (a, .inl (c, N, .inr (.inl g)))) H := q_swp hP ha (q_cellL h)
section QCopy
variable {p : Program} {l : Launch} {e : Env} {R : Room} {s : State} {m : MethodId} {args : Array Value} {below : List Frame} {meth : Method} {c : Code} {H : Heap} {locs : List Loc} {cells slots : Nat} {Q : State → Prop}
variable {cc : ByteArray} {pc : Nat} {ls : Array Slot} {rest : List Value} {C : q_C} {X : va_W} {A : Nat → Prop} {H0 : Heap} {a a0 : Nat}
theorem q_copyi {N : Nat} {f g : Nat → Int32} {own : String} {index : Nat} (hx : p.tables.exec = Jvm.exec) (hb : c.code = cc) (hml : c.maxLocals = ls.size) (hown : s.vm.findClass own = some m.cls) (hlink : (Cond.methodLink own index arraycopyName).before args s = true) (hnat : (Cond.native arraycopyName).before args s = true) (hstat : (Cond.static arraycopyName).before args s = true) (hini : (Cond.initialized "java/lang/System").before args s = true)
    (hK : q_K C s) (hP : va_P C.1 vwCl X H) (hD : va_D A X) (hS : va_S A H0 H locs) (q0 q1 : Nat) (ha0 : X[q0]? = some (a0, .inl (C.2.1, N, .inl f))) (ha1 : X[q1]? = some (a, .inl (C.2.1, N, .inl g))) (hN : N < 2 ^ 31)
    (hframes : 1 ≤ R.frames) (hlocals : (rest.map fun v => v.category).sum + (nativeFrameWords "java/lang/System" "arraycopy" 5 + 11) ≤ R.locals) (hdg : decode cc pc = .ok (.invokestatic index, 3))
    (kk : ∀ (H1 : Heap) (locs1 : List Loc), va_P C.1 vwCl (X.set q1 (a, .inl (C.2.1, N, .inl f))) H1 → va_D A (X.set q1 (a, .inl (C.2.1, N, .inl f))) → va_S A H0 H1 locs1 → W p l e R s m args below meth c H1 locs1 cells slots Q (F0 m (pc + 3) ls rest)) : W p l e R s m args below meth c H locs cells slots Q (F0 m pc ls (.int (nI N) :: .int (nI 0) :: .ref a :: .int (nI 0) :: .ref a0 :: rest)) := by
  have e0 : (nI 0).toNatClampNeg = 0 := nI_clamp (by decide)
  have eN : (nI N).toNatClampNeg = N := nI_clamp hN
  refine va_copyi hx hb hml hown hlink hnat hstat hini hK.1 hP hD hS q0 q1 0 0 ha0 ha1 rfl rfl rfl (nI_pos (by decide)) (nI_pos (by decide)) (nI_pos hN) (by rw [e0, eN]; omega) (by rw [e0, eN]; omega) (fun i _ => rfl) hframes hlocals hdg (fun H1 locs1 hP1 hD1 hS1 => ?_)
  have hl1 := (List.getElem?_eq_some_iff.mp ha1).1
  have hP2 := q_swpI (g := f) hP1 q1 (List.getElem?_set_self hl1) (fun k hk => by rw [e0, eN, pk_cpy_in (Nat.zero_le k) (by omega)]; congr 1; omega)
  rw [List.set_set] at hP2
  refine kk H1 locs1 hP2 ?_ hS1
  have hD2 := hD1.set (e := .inl (C.2.1, N, .inl f)) (List.getElem?_set_self hl1)
  rw [List.set_set] at hD2
  exact hD2
end QCopy
end
section
/-! the small methods: contracts -/
theorem q_lz : lN 0 = (0 : Int64) := by decide
theorem q_ne0l {y : Int64} {n : Nat} (h : y = lN n) (h0 : 0 < n) (h1 : n < 2 ^ 31) : ¬ y = 0 := by
  intro e
  have e2 := lN_toInt h1
  rw [← h, e] at e2
  have : (0 : Int64).toInt = 0 := rfl
  omega
set_option maxHeartbeats 4000000 in
set_option maxRecDepth 100000 in
theorem c_J9_floorDiv_f86c9 (l : Launch) (C : q_C) (x y : Int64) (h0_2 : ¬ y = 0) : q_M C l yJ9_floorDiv_f86c9 wsJ9_floorDiv_f86c9 0 0 [.long x, .long y] (([] : va_W)) (fun r w => r = some (.long (fdv x y)) ∧ w = []) := by
  refine q_head (cc := cJ9_floorDiv_f86c9) (maxL := 6) (ret := (some .long)) (by decide +kernel) rfl (Nat.le_of_ble_eq_true rfl) ?_
  intro p e s m below meth c hx hb hr hlocks hml hown hts hK hP hD hS hA ls hl
  have hl : lv_has ls 6 [(0, .long x), (2, .long y)] := hl
  refine lv_lload_n hx hb dJ9_floorDiv_f86c9_0 rfl (lv_at hl 0 rfl) ?_
  refine lv_lload_n hx hb dJ9_floorDiv_f86c9_1 rfl (lv_at hl 1 rfl) ?_
  refine lv_ldiv hx hb dJ9_floorDiv_f86c9_2 h0_2 ?_
  refine lv_lstore (lv' := [(4, .long (x / y)), (0, .long x), (2, .long y)]) hx hb dJ9_floorDiv_f86c9_3 hl (by decide) rfl (fun ls hl => ?_)
  refine lv_lload_n hx hb dJ9_floorDiv_f86c9_5 rfl (lv_at hl 1 rfl) ?_
  refine lv_lload_n hx hb dJ9_floorDiv_f86c9_6 rfl (lv_at hl 2 rfl) ?_
  refine lv_lxor hx hb dJ9_floorDiv_f86c9_7 ?_
  refine lv_lconst (v := lN 0) hx hb dJ9_floorDiv_f86c9_8 (by decide) ?_
  refine W.lcmp hx hb dJ9_floorDiv_f86c9_9 ?_
  refine lv_if_ge (tgt := 27) hx hb dJ9_floorDiv_f86c9_10 (by decide) (fun c10 => ?_) (fun c10 => ?_)
  · have c10 : (lN 0) ≤ (x ^^^ y) := q_lge c10
    refine lv_lload hx hb dJ9_floorDiv_f86c9_27 (lv_at hl 0 rfl) ?_
    exact q_lret hx hb hr hlocks (w1 := ([] : va_W)) hP hS rfl dJ9_floorDiv_f86c9_29 (⟨by rw [fdv, if_neg (fun q => Int64.not_lt.mpr (q_lz ▸ c10) q.1)], rfl⟩)
  · have c10 : (x ^^^ y) < (lN 0) := q_lge' c10
    refine lv_lload hx hb dJ9_floorDiv_f86c9_13 (lv_at hl 0 rfl) ?_
    refine lv_lload_n hx hb dJ9_floorDiv_f86c9_15 rfl (lv_at hl 2 rfl) ?_
    refine lv_lmul hx hb dJ9_floorDiv_f86c9_16 ?_
    refine lv_lload_n hx hb dJ9_floorDiv_f86c9_17 rfl (lv_at hl 1 rfl) ?_
    refine W.lcmp hx hb dJ9_floorDiv_f86c9_18 ?_
    refine lv_if_eq (tgt := 27) hx hb dJ9_floorDiv_f86c9_19 (by decide) (fun c19 => ?_) (fun c19 => ?_)
    · have c19 : ((x / y) * y) = x := q_leq c19
      refine lv_lload hx hb dJ9_floorDiv_f86c9_27 (lv_at hl 0 rfl) ?_
      exact q_lret hx hb hr hlocks (w1 := ([] : va_W)) hP hS rfl dJ9_floorDiv_f86c9_29 (⟨by rw [fdv, if_neg (fun q => q.2 c19)], rfl⟩)
    · have c19 : ((x / y) * y) ≠ x := q_leq' c19
      refine lv_lload hx hb dJ9_floorDiv_f86c9_22 (lv_at hl 0 rfl) ?_
      refine lv_lconst (v := lN 1) hx hb dJ9_floorDiv_f86c9_24 (by decide) ?_
      refine lv_lsub hx hb dJ9_floorDiv_f86c9_25 ?_
      exact q_lret hx hb hr hlocks (w1 := ([] : va_W)) hP hS rfl dJ9_floorDiv_f86c9_26 (⟨by rw [fdv, if_pos ⟨q_lz ▸ c10, c19⟩, show (lN 1 : Int64) = 1 from by decide], rfl⟩)
set_option maxHeartbeats 4000000 in
set_option maxRecDepth 100000 in
theorem c_X4_isWithin (l : Launch) (C : q_C) (x lo hi : Int32) : q_M C l yX4_isWithin wsX4_isWithin 0 0 [.int x, .int lo, .int hi] (([] : va_W)) (fun r w => r = some (.int (q_b (decide (lo ≤ x ∧ x ≤ hi)))) ∧ w = []) := by
  refine q_head (cc := cX4_isWithin) (maxL := 3) (ret := (some .boolean)) (by decide +kernel) rfl (Nat.le_of_ble_eq_true rfl) ?_
  intro p e s m below meth c hx hb hr hlocks hml hown hts hK hP hD hS hA ls hl
  have hl : lv_has ls 3 [(0, .int x), (1, .int lo), (2, .int hi)] := hl
  refine lv_iload_n hx hb dX4_isWithin_0 rfl (lv_at hl 0 rfl) ?_
  refine lv_iload_n hx hb dX4_isWithin_1 rfl (lv_at hl 1 rfl) ?_
  refine lv_icmp_lt (tgt := 14) hx hb dX4_isWithin_2 (by decide) (fun c2 => ?_) (fun c2 => ?_)
  · skip
    refine lv_iconst (v := nI 0) hx hb dX4_isWithin_14 (by decide) ?_
    exact q_zret hx hb hr hlocks rfl (w1 := ([] : va_W)) hP hS rfl dX4_isWithin_15 (⟨congrArg (fun z => some (Value.int z)) (q_bf (decide_eq_false (fun q => Int32.not_lt.mpr q.1 c2))), rfl⟩)
  · skip
    refine lv_iload_n hx hb dX4_isWithin_5 rfl (lv_at hl 0 rfl) ?_
    refine lv_iload_n hx hb dX4_isWithin_6 rfl (lv_at hl 2 rfl) ?_
    refine lv_icmp_gt (tgt := 14) hx hb dX4_isWithin_7 (by decide) (fun c7 => ?_) (fun c7 => ?_)
    · skip
      refine lv_iconst (v := nI 0) hx hb dX4_isWithin_14 (by decide) ?_
      exact q_zret hx hb hr hlocks rfl (w1 := ([] : va_W)) hP hS rfl dX4_isWithin_15 (⟨congrArg (fun z => some (Value.int z)) (q_bf (decide_eq_false (fun q => Int32.not_lt.mpr q.2 c7))), rfl⟩)
    · skip
      refine lv_iconst (v := nI 1) hx hb dX4_isWithin_10 (by decide) ?_
      refine lv_goto (tgt := 15) hx hb dX4_isWithin_11 (by decide) ?_
      exact q_zret hx hb hr hlocks rfl (w1 := ([] : va_W)) hP hS rfl dX4_isWithin_15 (⟨congrArg (fun z => some (Value.int z)) (q_bt (decide_eq_true ⟨Int32.not_lt.mp c2, Int32.not_lt.mp c7⟩)), rfl⟩)
set_option maxHeartbeats 4000000 in
set_option maxRecDepth 100000 in
theorem c_X4_slotOf (l : Launch) (C : q_C) (a t : Nat) : q_M C l yX4_slotOf wsX4_slotOf 0 0 [.int (nI a), .int (nI t)] (([] : va_W)) (fun r w => r = some (.int (nI (4 * a + t))) ∧ w = []) := by
  refine q_head (cc := cX4_slotOf) (maxL := 2) (ret := (some .int)) (by decide +kernel) rfl (Nat.le_of_ble_eq_true rfl) ?_
  intro p e s m below meth c hx hb hr hlocks hml hown hts hK hP hD hS hA ls hl
  have hl : lv_has ls 2 [(0, .int (nI a)), (1, .int (nI t))] := hl
  refine lv_iload_n hx hb dX4_slotOf_0 rfl (lv_at hl 0 rfl) ?_
  refine lv_iconst (v := nI 4) hx hb dX4_slotOf_1 (by decide) ?_
  refine lv_imul hx hb dX4_slotOf_2 ?_
  refine q_ti (y := nI (a * 4)) (pk_mul _ _) ?_
  refine lv_iload_n hx hb dX4_slotOf_3 rfl (lv_at hl 1 rfl) ?_
  refine lv_iadd hx hb dX4_slotOf_4 ?_
  refine q_ti (y := nI ((a * 4) + t)) (nI_add _ _) ?_
  exact q_iret hx hb hr hlocks (w1 := ([] : va_W)) hP hS rfl dX4_slotOf_5 (⟨by rw [Nat.mul_comm a 4], rfl⟩)
set_option maxHeartbeats 4000000 in
set_option maxRecDepth 100000 in
theorem c_X4_at (l : Launch) (C : q_C) (a N k : Nat) (f : Nat → Int32) (hk : k < N) (hN : N < 2 ^ 31) : q_M C l yX4_at wsX4_at 0 0 [.ref a, .int (nI k)] ([(a, .inl (C.2.1, N, .inl f))]) (fun r w => r = some (.int (f k)) ∧ w = [(a, .inl (C.2.1, N, .inl f))]) := by
  refine q_head (cc := cX4_at) (maxL := 2) (ret := (some .int)) (by decide +kernel) rfl (Nat.le_of_ble_eq_true rfl) ?_
  intro p e s m below meth c hx hb hr hlocks hml hown hts hK hP hD hS hA ls hl
  have hl : lv_has ls 2 [(0, .ref a), (1, .int (nI k))] := hl
  refine lv_iload_n hx hb dX4_at_0 rfl (lv_at hl 1 rfl) ?_
  refine lv_if_lt (tgt := 16) hx hb dX4_at_1 (by decide) (fun c1 => ?_) (fun c1 => ?_)
  · have c1 : k < 0 := q_nlt0 (by omega) (by omega) c1
    exact absurd c1 (by omega)
  have c1 : 0 ≤ k := q_nlt0' (by omega) (by omega) c1
  refine lv_iload_n hx hb dX4_at_4 rfl (lv_at hl 1 rfl) ?_
  refine lv_aload_n hx hb dX4_at_5 rfl (lv_at hl 0 rfl) ?_
  refine va_alen hx hb hK.1 hP 0 0 rfl rfl (v := nI N) rfl dX4_at_6 ?_
  refine lv_icmp_ge (tgt := 16) hx hb dX4_at_7 (by decide) (fun c7 => ?_) (fun c7 => ?_)
  · have c7 : N ≤ k := q_nge (by omega) (by omega) c7
    exact absurd c7 (by omega)
  have c7 : k < N := q_nge' (by omega) (by omega) c7
  refine lv_aload_n hx hb dX4_at_10 rfl (lv_at hl 0 rfl) ?_
  refine lv_iload_n hx hb dX4_at_11 rfl (lv_at hl 1 rfl) ?_
  refine q_iald (n := k) (v := f k) hx hb hK hP 0 rfl (by omega) (by omega) rfl dX4_at_12 ?_
  refine lv_goto (tgt := 17) hx hb dX4_at_13 (by decide) ?_
  exact q_iret hx hb hr hlocks (w1 := [(a, .inl (C.2.1, N, .inl f))]) hP hS rfl dX4_at_17 (⟨rfl, rfl⟩)
set_option maxHeartbeats 4000000 in
set_option maxRecDepth 100000 in
theorem c_X4_at_ (l : Launch) (C : q_C) (a N k : Nat) (f : Nat → Int64) (hk : k < N) (hN : N < 2 ^ 31) : q_M C l yX4_at_ wsX4_at_ 0 0 [.ref a, .int (nI k)] ([(a, .inl (C.2.2.1, N, .inr (.inl f)))]) (fun r w => r = some (.long (f k)) ∧ w = [(a, .inl (C.2.2.1, N, .inr (.inl f)))]) := by
  refine q_head (cc := cX4_at_) (maxL := 2) (ret := (some .long)) (by decide +kernel) rfl (Nat.le_of_ble_eq_true rfl) ?_
  intro p e s m below meth c hx hb hr hlocks hml hown hts hK hP hD hS hA ls hl
  have hl : lv_has ls 2 [(0, .ref a), (1, .int (nI k))] := hl
  refine lv_iload_n hx hb dX4_at__0 rfl (lv_at hl 1 rfl) ?_
  refine lv_if_lt (tgt := 16) hx hb dX4_at__1 (by decide) (fun c1 => ?_) (fun c1 => ?_)
  · have c1 : k < 0 := q_nlt0 (by omega) (by omega) c1
    exact absurd c1 (by omega)
  have c1 : 0 ≤ k := q_nlt0' (by omega) (by omega) c1
  refine lv_iload_n hx hb dX4_at__4 rfl (lv_at hl 1 rfl) ?_
  refine lv_aload_n hx hb dX4_at__5 rfl (lv_at hl 0 rfl) ?_
  refine va_alen hx hb hK.1 hP 0 1 rfl rfl (v := nI N) rfl dX4_at__6 ?_
  refine lv_icmp_ge (tgt := 16) hx hb dX4_at__7 (by decide) (fun c7 => ?_) (fun c7 => ?_)
  · have c7 : N ≤ k := q_nge (by omega) (by omega) c7
    exact absurd c7 (by omega)
  have c7 : k < N := q_nge' (by omega) (by omega) c7
  refine lv_aload_n hx hb dX4_at__10 rfl (lv_at hl 0 rfl) ?_
  refine lv_iload_n hx hb dX4_at__11 rfl (lv_at hl 1 rfl) ?_
  refine q_lald (n := k) (v := f k) hx hb hK hP 0 rfl (by omega) (by omega) rfl dX4_at__12 ?_
  refine lv_goto (tgt := 17) hx hb dX4_at__13 (by decide) ?_
  exact q_lret hx hb hr hlocks (w1 := [(a, .inl (C.2.2.1, N, .inr (.inl f)))]) hP hS rfl dX4_at__17 (⟨rfl, rfl⟩)
set_option maxHeartbeats 4000000 in
set_option maxRecDepth 100000 in
theorem c_X4_store (l : Launch) (C : q_C) (a N k : Nat) (f : Nat → Int32) (v : Int32) (hk : k < N) (hN : N < 2 ^ 31) : q_M C l yX4_store wsX4_store 0 0 [.ref a, .int (nI k), .int v] ([(a, .inl (C.2.1, N, .inl f))]) (fun r w => r = none ∧ w = [(a, .inl (C.2.1, N, .inl (upd f k v)))]) := by
  refine q_head (cc := cX4_store) (maxL := 3) (ret := none) (by decide +kernel) rfl (Nat.le_of_ble_eq_true rfl) ?_
  intro p e s m below meth c hx hb hr hlocks hml hown hts hK hP hD hS hA ls hl
  have hl : lv_has ls 3 [(0, .ref a), (1, .int (nI k)), (2, .int v)] := hl
  refine lv_iload_n hx hb dX4_store_0 rfl (lv_at hl 1 rfl) ?_
  refine lv_if_lt (tgt := 14) hx hb dX4_store_1 (by decide) (fun c1 => ?_) (fun c1 => ?_)
  · have c1 : k < 0 := q_nlt0 (by omega) (by omega) c1
    exact absurd c1 (by omega)
  have c1 : 0 ≤ k := q_nlt0' (by omega) (by omega) c1
  refine lv_iload_n hx hb dX4_store_4 rfl (lv_at hl 1 rfl) ?_
  refine lv_aload_n hx hb dX4_store_5 rfl (lv_at hl 0 rfl) ?_
  refine va_alen hx hb hK.1 hP 0 0 rfl rfl (v := nI N) rfl dX4_store_6 ?_
  refine lv_icmp_ge (tgt := 14) hx hb dX4_store_7 (by decide) (fun c7 => ?_) (fun c7 => ?_)
  · have c7 : N ≤ k := q_nge (by omega) (by omega) c7
    exact absurd c7 (by omega)
  have c7 : k < N := q_nge' (by omega) (by omega) c7
  refine lv_aload_n hx hb dX4_store_10 rfl (lv_at hl 0 rfl) ?_
  refine lv_iload_n hx hb dX4_store_11 rfl (lv_at hl 1 rfl) ?_
  refine lv_iload_n hx hb dX4_store_12 rfl (lv_at hl 2 rfl) ?_
  refine q_iast (n := k) hx hb hK hP hD hS 0 rfl (by omega) (by omega) dX4_store_13 (fun H locs hP hD hS => ?_)
  have hP : va_P C.1 vwCl ([(a, .inl (C.2.1, N, .inl (upd f k v)))]) H := hP
  have hD : va_D (q_A ([(a, .inl (C.2.1, N, .inl f))]) s) ([(a, .inl (C.2.1, N, .inl (upd f k v)))]) := hD
  exact q_vret hx hb hr hlocks (w1 := [(a, .inl (C.2.1, N, .inl (upd f k v)))]) hP hS rfl dX4_store_14 (⟨rfl, rfl⟩)
set_option maxHeartbeats 4000000 in
set_option maxRecDepth 100000 in
theorem c_X4_store_ (l : Launch) (C : q_C) (a N k : Nat) (f : Nat → Int64) (v : Int64) (hk : k < N) (hN : N < 2 ^ 31) : q_M C l yX4_store_ wsX4_store_ 0 0 [.ref a, .int (nI k), .long v] ([(a, .inl (C.2.2.1, N, .inr (.inl f)))]) (fun r w => r = none ∧ w = [(a, .inl (C.2.2.1, N, .inr (.inl (vp_updL f k v))))]) := by
  refine q_head (cc := cX4_store_) (maxL := 4) (ret := none) (by decide +kernel) rfl (Nat.le_of_ble_eq_true rfl) ?_
  intro p e s m below meth c hx hb hr hlocks hml hown hts hK hP hD hS hA ls hl
  have hl : lv_has ls 4 [(0, .ref a), (1, .int (nI k)), (2, .long v)] := hl
  refine lv_iload_n hx hb dX4_store__0 rfl (lv_at hl 1 rfl) ?_
  refine lv_if_lt (tgt := 14) hx hb dX4_store__1 (by decide) (fun c1 => ?_) (fun c1 => ?_)
  · have c1 : k < 0 := q_nlt0 (by omega) (by omega) c1
    exact absurd c1 (by omega)
  have c1 : 0 ≤ k := q_nlt0' (by omega) (by omega) c1
  refine lv_iload_n hx hb dX4_store__4 rfl (lv_at hl 1 rfl) ?_
  refine lv_aload_n hx hb dX4_store__5 rfl (lv_at hl 0 rfl) ?_
  refine va_alen hx hb hK.1 hP 0 1 rfl rfl (v := nI N) rfl dX4_store__6 ?_
  refine lv_icmp_ge (tgt := 14) hx hb dX4_store__7 (by decide) (fun c7 => ?_) (fun c7 => ?_)
  · have c7 : N ≤ k := q_nge (by omega) (by omega) c7
    exact absurd c7 (by omega)
  have c7 : k < N := q_nge' (by omega) (by omega) c7
  refine lv_aload_n hx hb dX4_store__10 rfl (lv_at hl 0 rfl) ?_
  refine lv_iload_n hx hb dX4_store__11 rfl (lv_at hl 1 rfl) ?_
  refine lv_lload_n hx hb dX4_store__12 rfl (lv_at hl 2 rfl) ?_
  refine q_last (n := k) hx hb hK hP hD hS 0 rfl (by omega) (by omega) dX4_store__13 (fun H locs hP hD hS => ?_)
  have hP : va_P C.1 vwCl ([(a, .inl (C.2.2.1, N, .inr (.inl (vp_updL f k v))))]) H := hP
  have hD : va_D (q_A ([(a, .inl (C.2.2.1, N, .inr (.inl f)))]) s) ([(a, .inl (C.2.2.1, N, .inr (.inl (vp_updL f k v))))]) := hD
  exact q_vret hx hb hr hlocks (w1 := [(a, .inl (C.2.2.1, N, .inr (.inl (vp_updL f k v))))]) hP hS rfl dX4_store__14 (⟨rfl, rfl⟩)
end
section
/-! boards: reads -/
theorem q_ob5 {b : Bd} (h : OkB b) : bl b < 2 ^ 31 := by have := h.2.2.2.1; omega
set_option maxHeartbeats 4000000 in
set_option maxRecDepth 100000 in
theorem c_X0_wouldChange (l : Launch) (C : q_C) (a : Nat → Nat) (b : Bd) (arm : Nat) (hB : OkB b) (ha : arm < 4) : q_M C l yX0_wouldChange wsX0_wouldChange 0 0 [.ref (a 0), .int (nI arm)] (wB C a b) (fun r w => r = some (.int (q_b (othB b arm))) ∧ w = wB C a b) := by
  refine q_head (cc := cX0_wouldChange) (maxL := 2) (ret := (some .boolean)) (by decide +kernel) rfl (Nat.le_of_ble_eq_true rfl) ?_
  intro p e s m below meth c hx hb hr hlocks hml hown hts hK hP hD hS hA ls hl
  have hl : lv_has ls 2 [(0, .ref (a 0)), (1, .int (nI arm))] := hl
  have hf33 := hts (.fieldLink RX0 33 "RestedArms$Board" "last" "I") (by decide +kernel)
  have hin0 : ∀ w ∈ u_ws RX0 TX0 12, w ∈ wsX0_wouldChange := by decide +kernel
  refine lv_aload_n hx hb dX0_wouldChange_0 rfl (lv_at hl 0 rfl) ?_
  refine va_get (ci := 0) (v := .int (nI (bl b) - 1)) (C := RX0) (T := TX0) (N := 12) hx hb hts hin0 hown hK.1 hP 0 rfl rfl 8 (by decide) hf33 (fun _ h9 => h9) rfl dX0_wouldChange_1 ?_
  refine lv_iconst (v := (-1)) hx hb dX0_wouldChange_4 (by decide) ?_
  refine lv_icmp_eq (tgt := 20) hx hb dX0_wouldChange_5 (by decide) (fun c5 => ?_) (fun c5 => ?_)
  · skip
    refine lv_iconst (v := nI 0) hx hb dX0_wouldChange_20 (by decide) ?_
    exact q_zret hx hb hr hlocks rfl (w1 := wB C a b) hP hS rfl dX0_wouldChange_21 (⟨congrArg (fun z => some (Value.int z)) (q_bf (decide_eq_false (fun q => q.1 ((q_las (q_ob5 hB)).mp c5)))), rfl⟩)
  · skip
    refine lv_aload_n hx hb dX0_wouldChange_8 rfl (lv_at hl 0 rfl) ?_
    refine va_get (ci := 0) (v := .int (nI (bl b) - 1)) (C := RX0) (T := TX0) (N := 12) hx hb hts hin0 hown hK.1 hP 0 rfl rfl 8 (by decide) hf33 (fun _ h9 => h9) rfl dX0_wouldChange_9 ?_
    refine lv_iload_n hx hb dX0_wouldChange_12 rfl (lv_at hl 1 rfl) ?_
    refine lv_icmp_eq (tgt := 20) hx hb dX0_wouldChange_13 (by decide) (fun c13 => ?_) (fun c13 => ?_)
    · skip
      refine lv_iconst (v := nI 0) hx hb dX0_wouldChange_20 (by decide) ?_
      exact q_zret hx hb hr hlocks rfl (w1 := wB C a b) hP hS rfl dX0_wouldChange_21 (⟨congrArg (fun z => some (Value.int z)) (q_bf (decide_eq_false (fun q => q.2 ((q_las2 (q_ob5 hB) (by omega)).mp c13)))), rfl⟩)
    · skip
      refine lv_iconst (v := nI 1) hx hb dX0_wouldChange_16 (by decide) ?_
      refine lv_goto (tgt := 21) hx hb dX0_wouldChange_17 (by decide) ?_
      exact q_zret hx hb hr hlocks rfl (w1 := wB C a b) hP hS rfl dX0_wouldChange_21 (⟨congrArg (fun z => some (Value.int z)) (q_bt (decide_eq_true ⟨fun q => c5 ((q_las (q_ob5 hB)).mpr q), fun q => c13 ((q_las2 (q_ob5 hB) (by omega)).mpr q)⟩)), rfl⟩)
set_option maxHeartbeats 4000000 in
set_option maxRecDepth 100000 in
theorem c_X0_costOf (l : Launch) (C : q_C) (a : Nat → Nat) (b : Bd) (arm rule : Nat) (hB : OkB b) (ha : arm < 4) (hr3 : rule < 3) : q_M C l yX0_costOf wsX0_costOf 1 21 [.ref (a 0), .int (nI arm), .int (nI rule)] (wB C a b) (fun r w => r = some (.long (lN (costB b arm rule))) ∧ w = wB C a b) := by
  obtain ⟨ok1, ok2, ⟨ok3, ok4, ok5, ok6, ok7⟩, ok8, ok9⟩ := id hB
  refine q_head (cc := cX0_costOf) (maxL := 5) (ret := (some .long)) (by decide +kernel) rfl (Nat.le_of_ble_eq_true rfl) ?_
  intro p e s m below meth c hx hb hr hlocks hml hown hts hK hP hD hS hA ls hl
  have hl : lv_has ls 5 [(0, .ref (a 0)), (1, .int (nI arm)), (2, .int (nI rule))] := hl
  have hf30 := hts (.fieldLink RX0 30 "RestedArms$Board" "settings" "[I") (by decide +kernel)
  have hin0 : ∀ w ∈ u_ws RX0 TX0 12, w ∈ wsX0_costOf := by decide +kernel
  have hk70 := hts (.constantLong RX0 70 (10)) (by decide +kernel)
  refine lv_aload_n hx hb dX0_costOf_0 rfl (lv_at hl 0 rfl) ?_
  refine lv_iload_n hx hb dX0_costOf_1 rfl (lv_at hl 1 rfl) ?_
  refine q_V (As := [.int (nI arm)]) (rest := []) ⟨hx, hb, hml, hown, hts⟩ (c_X0_wouldChange l C a b arm hB (by omega)) (cwV 1 hts gX0_costOf_X0_wouldChange rfl rfl rfl (by decide +kernel) ⟨Nat.le_of_ble_eq_true rfl, Nat.le_of_ble_eq_true rfl⟩) hK hP hD hS hA [0, 1, 2, 3, 4, 5, 6, 7] (by decide) rfl 0 rfl rfl rfl rfl hl.1 rfl (Nat.le_of_ble_eq_true rfl) dX0_costOf_2 (Nat.zero_le _) (Nat.zero_le _) (fun r w1 H locs hQ hP hD hS => ?_)
  obtain ⟨rfl, rfl⟩ := hQ
  have hP : va_P C.1 vwCl (wB C a b) H := hP
  have hD : va_D (q_A (wB C a b) s) (wB C a b) := hD
  refine W.eq (g2 := F0 m 5 ls [.int (q_b (othB b arm))]) rfl ?_
  refine lv_if_ne (tgt := 10) hx hb dX0_costOf_5 (by decide) (fun c5 => ?_) (fun c5 => ?_)
  · have c5 : othB b arm = true := q_b1.mp c5
    refine lv_aload_n hx hb dX0_costOf_10 rfl (lv_at hl 0 rfl) ?_
    refine va_get (ci := 0) (v := .ref (a 7)) (C := RX0) (T := TX0) (N := 12) hx hb hts hin0 hown hK.1 hP 0 rfl rfl 6 (by decide) hf30 (fun _ h9 => h9) rfl dX0_costOf_11 ?_
    refine lv_iconst (v := nI 2) hx hb dX0_costOf_14 (by decide) ?_
    refine q_N (As := [.ref (a 7), .int (nI 2)]) (rest := []) ⟨hx, hb, hml, hown, hts⟩ (c_X4_at l C (a 7) 4 2 (fun k => nI (bs b k)) (by decide) (by decide)) ⟨va_cnB 2 hts gX0_costOf_X4_at_n62 rfl rfl rfl (q_nw hK 1 rfl) (hts (.initialized RX4) (by decide +kernel)) (by decide +kernel) ⟨Nat.le_of_ble_eq_true rfl, Nat.le_of_ble_eq_true rfl⟩, hts (.static yX4_at) (by decide +kernel), trivial⟩ hK hP hD hS hA [7] (by decide) rfl rfl hl.1 rfl (Nat.le_of_ble_eq_true rfl) dX0_costOf_15 (Nat.zero_le _) (Nat.zero_le _) (fun r w1 H locs hQ hP hD hS => ?_)
    obtain ⟨rfl, rfl⟩ := hQ
    have hP : va_P C.1 vwCl (wB C a b) H := hP
    have hD : va_D (q_A (wB C a b) s) (wB C a b) := hD
    refine W.eq (g2 := F0 m 18 ls [.int (nI (bs b 2))]) rfl ?_
    refine lv_i2l (v := lN (bs b 2)) hx hb dX0_costOf_18 (nI_l (by omega)) ?_
    refine lv_lstore_n (lv' := [(3, .long (lN (bs b 2))), (0, .ref (a 0)), (1, .int (nI arm)), (2, .int (nI rule))]) hx hb dX0_costOf_19 rfl hl (by decide) rfl (fun ls hl => ?_)
    refine lv_iload_n hx hb dX0_costOf_20 rfl (lv_at hl 3 rfl) ?_
    refine lv_if_ne (tgt := 45) hx hb dX0_costOf_21 (by decide) (fun c21 => ?_) (fun c21 => ?_)
    · have c21 : rule ≠ 0 := q_nne0 (by omega) (by omega) c21
      refine lv_lload_n hx hb dX0_costOf_45 rfl (lv_at hl 0 rfl) ?_
      exact q_lret hx hb hr hlocks (w1 := wB C a b) hP hS rfl dX0_costOf_46 (⟨by rw [costB, if_pos c5, if_neg c21], rfl⟩)
    · have c21 : rule = 0 := q_nne0' (by omega) (by omega) c21
      refine lv_ldc2 hx hb hown hk70 dX0_costOf_24 ?_
      refine q_tl (y := lN 10) (by decide) ?_
      refine lv_lload_n hx hb dX0_costOf_27 rfl (lv_at hl 0 rfl) ?_
      refine lv_lmul hx hb dX0_costOf_28 ?_
      refine q_tl (y := lN (10 * (bs b 2))) (lN_mul _ _) ?_
      refine lv_bipush (v := nI 100) hx hb dX0_costOf_29 (by decide) ?_
      refine lv_aload_n hx hb dX0_costOf_31 rfl (lv_at hl 1 rfl) ?_
      refine va_get (ci := 0) (v := .ref (a 7)) (C := RX0) (T := TX0) (N := 12) hx hb hts hin0 hown hK.1 hP 0 rfl rfl 6 (by decide) hf30 (fun _ h9 => h9) rfl dX0_costOf_32 ?_
      refine lv_iconst (v := nI 0) hx hb dX0_costOf_35 (by decide) ?_
      refine q_N (As := [.ref (a 7), .int (nI 0)]) (rest := [.int (nI 100), .long (lN (10 * (bs b 2)))]) ⟨hx, hb, hml, hown, hts⟩ (c_X4_at l C (a 7) 4 0 (fun k => nI (bs b k)) (by decide) (by decide)) ⟨va_cnB 2 hts gX0_costOf_X4_at_n62 rfl rfl rfl (q_nw hK 1 rfl) (hts (.initialized RX4) (by decide +kernel)) (by decide +kernel) ⟨Nat.le_of_ble_eq_true rfl, Nat.le_of_ble_eq_true rfl⟩, hts (.static yX4_at) (by decide +kernel), trivial⟩ hK hP hD hS hA [7] (by decide) rfl rfl hl.1 rfl (Nat.le_of_ble_eq_true rfl) dX0_costOf_36 (Nat.zero_le _) (Nat.zero_le _) (fun r w1 H locs hQ hP hD hS => ?_)
      obtain ⟨rfl, rfl⟩ := hQ
      have hP : va_P C.1 vwCl (wB C a b) H := hP
      have hD : va_D (q_A (wB C a b) s) (wB C a b) := hD
      refine W.eq (g2 := F0 m 39 ls [.int (nI (bs b 0)), .int (nI 100), .long (lN (10 * (bs b 2)))]) rfl ?_
      refine lv_isub hx hb dX0_costOf_39 ?_
      refine q_ti (y := nI (100 - (bs b 0))) (pk_sub (by omega)) ?_
      refine lv_i2l (v := lN (100 - (bs b 0))) hx hb dX0_costOf_40 (nI_l (by omega)) ?_
      refine lv_lmul hx hb dX0_costOf_41 ?_
      refine q_tl (y := lN ((10 * (bs b 2)) * (100 - (bs b 0)))) (lN_mul _ _) ?_
      refine lv_goto (tgt := 46) hx hb dX0_costOf_42 (by decide) ?_
      exact q_lret hx hb hr hlocks (w1 := wB C a b) hP hS rfl dX0_costOf_46 (⟨by rw [costB, if_pos c5, if_pos c21], rfl⟩)
  · have c5 : othB b arm = false := q_b0.mp c5
    refine lv_lconst (v := lN 0) hx hb dX0_costOf_8 (by decide) ?_
    exact q_lret hx hb hr hlocks (w1 := wB C a b) hP hS rfl dX0_costOf_9 (⟨by rw [costB, if_neg (by rw [c5]; decide)], rfl⟩)
set_option maxHeartbeats 4000000 in
set_option maxRecDepth 100000 in
theorem c_X0_allPulls (l : Launch) (C : q_C) (a : Nat → Nat) (b : Bd) : q_M C l yX0_allPulls wsX0_allPulls 1 21 [.ref (a 0)] (wB C a b) (fun r w => r = some (.int (nI (sumU b))) ∧ w = wB C a b) := by
  refine q_head (cc := cX0_allPulls) (maxL := 3) (ret := (some .int)) (by decide +kernel) rfl (Nat.le_of_ble_eq_true rfl) ?_
  intro p e s m below meth c hx hb hr hlocks hml hown hts hK hP hD hS hA ls hl
  have hl : lv_has ls 3 [(0, .ref (a 0))] := hl
  have hf27 := hts (.fieldLink RX0 27 "RestedArms$Board" "pulls" "[I") (by decide +kernel)
  have hin0 : ∀ w ∈ u_ws RX0 TX0 12, w ∈ wsX0_allPulls := by decide +kernel
  refine lv_iconst (v := nI 0) hx hb dX0_allPulls_0 (by decide) ?_
  refine lv_istore_n (lv' := [(1, .int (nI 0)), (0, .ref (a 0))]) hx hb dX0_allPulls_1 rfl hl (by decide) rfl (fun ls hl => ?_)
  refine lv_iconst (v := nI 0) hx hb dX0_allPulls_2 (by decide) ?_
  refine lv_istore_n (lv' := [(2, .int (nI 0)), (1, .int (nI 0)), (0, .ref (a 0))]) hx hb dX0_allPulls_3 rfl hl (by decide) rfl (fun ls hl => ?_)
  refine lv_iload_n hx hb dX0_allPulls_4 rfl (lv_at hl 0 rfl) ?_
  refine lv_iconst (v := nI 4) hx hb dX0_allPulls_5 (by decide) ?_
  refine lv_icmp_ge (tgt := 26) hx hb dX0_allPulls_6 (by decide) (fun c => absurd c (by decide)) (fun _ => ?_)
  refine lv_iload_n hx hb dX0_allPulls_9 rfl (lv_at hl 1 rfl) ?_
  refine lv_aload_n hx hb dX0_allPulls_10 rfl (lv_at hl 2 rfl) ?_
  refine va_get (ci := 0) (v := .ref (a 6)) (C := RX0) (T := TX0) (N := 12) hx hb hts hin0 hown hK.1 hP 0 rfl rfl 5 (by decide) hf27 (fun _ h9 => h9) rfl dX0_allPulls_11 ?_
  refine lv_iload_n hx hb dX0_allPulls_14 rfl (lv_at hl 0 rfl) ?_
  refine q_N (As := [.ref (a 6), .int (nI 0)]) (rest := [.int (nI 0)]) ⟨hx, hb, hml, hown, hts⟩ (c_X4_at l C (a 6) 4 0 (fun k => nI (bu b k)) (by decide) (by decide)) ⟨va_cnB 2 hts gX0_allPulls_X4_at_n62 rfl rfl rfl (q_nw hK 1 rfl) (hts (.initialized RX4) (by decide +kernel)) (by decide +kernel) ⟨Nat.le_of_ble_eq_true rfl, Nat.le_of_ble_eq_true rfl⟩, hts (.static yX4_at) (by decide +kernel), trivial⟩ hK hP hD hS hA [6] (by decide) rfl rfl hl.1 rfl (Nat.le_of_ble_eq_true rfl) dX0_allPulls_15 (Nat.zero_le _) (Nat.zero_le _) (fun r w1 H locs hQ hP hD hS => ?_)
  obtain ⟨rfl, rfl⟩ := hQ
  have hP : va_P C.1 vwCl (wB C a b) H := hP
  have hD : va_D (q_A (wB C a b) s) (wB C a b) := hD
  refine W.eq (g2 := F0 m 18 ls [.int (nI (bu b 0)), .int (nI 0)]) rfl ?_
  refine lv_iadd hx hb dX0_allPulls_18 ?_
  refine q_ti (y := nI (0 + (bu b 0))) (nI_add _ _) ?_
  refine lv_istore_n (lv' := [(1, .int (nI (0 + (bu b 0)))), (2, .int (nI 0)), (0, .ref (a 0))]) hx hb dX0_allPulls_19 rfl hl (by decide) rfl (fun ls hl => ?_)
  refine lv_iinc (v := nI 1) (lv' := [(2, .int (nI 1)), (1, .int (nI (0 + (bu b 0)))), (0, .ref (a 0))]) hx hb dX0_allPulls_20 hl (k := 1) rfl (by decide) (by decide) rfl (fun ls hl => ?_)
  refine lv_goto (tgt := 4) hx hb dX0_allPulls_23 (by decide) ?_
  refine lv_iload_n hx hb dX0_allPulls_4 rfl (lv_at hl 0 rfl) ?_
  refine lv_iconst (v := nI 4) hx hb dX0_allPulls_5 (by decide) ?_
  refine lv_icmp_ge (tgt := 26) hx hb dX0_allPulls_6 (by decide) (fun c => absurd c (by decide)) (fun _ => ?_)
  refine lv_iload_n hx hb dX0_allPulls_9 rfl (lv_at hl 1 rfl) ?_
  refine lv_aload_n hx hb dX0_allPulls_10 rfl (lv_at hl 2 rfl) ?_
  refine va_get (ci := 0) (v := .ref (a 6)) (C := RX0) (T := TX0) (N := 12) hx hb hts hin0 hown hK.1 hP 0 rfl rfl 5 (by decide) hf27 (fun _ h9 => h9) rfl dX0_allPulls_11 ?_
  refine lv_iload_n hx hb dX0_allPulls_14 rfl (lv_at hl 0 rfl) ?_
  refine q_N (As := [.ref (a 6), .int (nI 1)]) (rest := [.int (nI (0 + (bu b 0)))]) ⟨hx, hb, hml, hown, hts⟩ (c_X4_at l C (a 6) 4 1 (fun k => nI (bu b k)) (by decide) (by decide)) ⟨va_cnB 2 hts gX0_allPulls_X4_at_n62 rfl rfl rfl (q_nw hK 1 rfl) (hts (.initialized RX4) (by decide +kernel)) (by decide +kernel) ⟨Nat.le_of_ble_eq_true rfl, Nat.le_of_ble_eq_true rfl⟩, hts (.static yX4_at) (by decide +kernel), trivial⟩ hK hP hD hS hA [6] (by decide) rfl rfl hl.1 rfl (Nat.le_of_ble_eq_true rfl) dX0_allPulls_15 (Nat.zero_le _) (Nat.zero_le _) (fun r w1 H locs hQ hP hD hS => ?_)
  obtain ⟨rfl, rfl⟩ := hQ
  have hP : va_P C.1 vwCl (wB C a b) H := hP
  have hD : va_D (q_A (wB C a b) s) (wB C a b) := hD
  refine W.eq (g2 := F0 m 18 ls [.int (nI (bu b 1)), .int (nI (0 + (bu b 0)))]) rfl ?_
  refine lv_iadd hx hb dX0_allPulls_18 ?_
  refine q_ti (y := nI ((0 + (bu b 0)) + (bu b 1))) (nI_add _ _) ?_
  refine lv_istore_n (lv' := [(1, .int (nI ((0 + (bu b 0)) + (bu b 1)))), (2, .int (nI 1)), (0, .ref (a 0))]) hx hb dX0_allPulls_19 rfl hl (by decide) rfl (fun ls hl => ?_)
  refine lv_iinc (v := nI 2) (lv' := [(2, .int (nI 2)), (1, .int (nI ((0 + (bu b 0)) + (bu b 1)))), (0, .ref (a 0))]) hx hb dX0_allPulls_20 hl (k := 1) rfl (by decide) (by decide) rfl (fun ls hl => ?_)
  refine lv_goto (tgt := 4) hx hb dX0_allPulls_23 (by decide) ?_
  refine lv_iload_n hx hb dX0_allPulls_4 rfl (lv_at hl 0 rfl) ?_
  refine lv_iconst (v := nI 4) hx hb dX0_allPulls_5 (by decide) ?_
  refine lv_icmp_ge (tgt := 26) hx hb dX0_allPulls_6 (by decide) (fun c => absurd c (by decide)) (fun _ => ?_)
  refine lv_iload_n hx hb dX0_allPulls_9 rfl (lv_at hl 1 rfl) ?_
  refine lv_aload_n hx hb dX0_allPulls_10 rfl (lv_at hl 2 rfl) ?_
  refine va_get (ci := 0) (v := .ref (a 6)) (C := RX0) (T := TX0) (N := 12) hx hb hts hin0 hown hK.1 hP 0 rfl rfl 5 (by decide) hf27 (fun _ h9 => h9) rfl dX0_allPulls_11 ?_
  refine lv_iload_n hx hb dX0_allPulls_14 rfl (lv_at hl 0 rfl) ?_
  refine q_N (As := [.ref (a 6), .int (nI 2)]) (rest := [.int (nI ((0 + (bu b 0)) + (bu b 1)))]) ⟨hx, hb, hml, hown, hts⟩ (c_X4_at l C (a 6) 4 2 (fun k => nI (bu b k)) (by decide) (by decide)) ⟨va_cnB 2 hts gX0_allPulls_X4_at_n62 rfl rfl rfl (q_nw hK 1 rfl) (hts (.initialized RX4) (by decide +kernel)) (by decide +kernel) ⟨Nat.le_of_ble_eq_true rfl, Nat.le_of_ble_eq_true rfl⟩, hts (.static yX4_at) (by decide +kernel), trivial⟩ hK hP hD hS hA [6] (by decide) rfl rfl hl.1 rfl (Nat.le_of_ble_eq_true rfl) dX0_allPulls_15 (Nat.zero_le _) (Nat.zero_le _) (fun r w1 H locs hQ hP hD hS => ?_)
  obtain ⟨rfl, rfl⟩ := hQ
  have hP : va_P C.1 vwCl (wB C a b) H := hP
  have hD : va_D (q_A (wB C a b) s) (wB C a b) := hD
  refine W.eq (g2 := F0 m 18 ls [.int (nI (bu b 2)), .int (nI ((0 + (bu b 0)) + (bu b 1)))]) rfl ?_
  refine lv_iadd hx hb dX0_allPulls_18 ?_
  refine q_ti (y := nI (((0 + (bu b 0)) + (bu b 1)) + (bu b 2))) (nI_add _ _) ?_
  refine lv_istore_n (lv' := [(1, .int (nI (((0 + (bu b 0)) + (bu b 1)) + (bu b 2)))), (2, .int (nI 2)), (0, .ref (a 0))]) hx hb dX0_allPulls_19 rfl hl (by decide) rfl (fun ls hl => ?_)
  refine lv_iinc (v := nI 3) (lv' := [(2, .int (nI 3)), (1, .int (nI (((0 + (bu b 0)) + (bu b 1)) + (bu b 2)))), (0, .ref (a 0))]) hx hb dX0_allPulls_20 hl (k := 1) rfl (by decide) (by decide) rfl (fun ls hl => ?_)
  refine lv_goto (tgt := 4) hx hb dX0_allPulls_23 (by decide) ?_
  refine lv_iload_n hx hb dX0_allPulls_4 rfl (lv_at hl 0 rfl) ?_
  refine lv_iconst (v := nI 4) hx hb dX0_allPulls_5 (by decide) ?_
  refine lv_icmp_ge (tgt := 26) hx hb dX0_allPulls_6 (by decide) (fun c => absurd c (by decide)) (fun _ => ?_)
  refine lv_iload_n hx hb dX0_allPulls_9 rfl (lv_at hl 1 rfl) ?_
  refine lv_aload_n hx hb dX0_allPulls_10 rfl (lv_at hl 2 rfl) ?_
  refine va_get (ci := 0) (v := .ref (a 6)) (C := RX0) (T := TX0) (N := 12) hx hb hts hin0 hown hK.1 hP 0 rfl rfl 5 (by decide) hf27 (fun _ h9 => h9) rfl dX0_allPulls_11 ?_
  refine lv_iload_n hx hb dX0_allPulls_14 rfl (lv_at hl 0 rfl) ?_
  refine q_N (As := [.ref (a 6), .int (nI 3)]) (rest := [.int (nI (((0 + (bu b 0)) + (bu b 1)) + (bu b 2)))]) ⟨hx, hb, hml, hown, hts⟩ (c_X4_at l C (a 6) 4 3 (fun k => nI (bu b k)) (by decide) (by decide)) ⟨va_cnB 2 hts gX0_allPulls_X4_at_n62 rfl rfl rfl (q_nw hK 1 rfl) (hts (.initialized RX4) (by decide +kernel)) (by decide +kernel) ⟨Nat.le_of_ble_eq_true rfl, Nat.le_of_ble_eq_true rfl⟩, hts (.static yX4_at) (by decide +kernel), trivial⟩ hK hP hD hS hA [6] (by decide) rfl rfl hl.1 rfl (Nat.le_of_ble_eq_true rfl) dX0_allPulls_15 (Nat.zero_le _) (Nat.zero_le _) (fun r w1 H locs hQ hP hD hS => ?_)
  obtain ⟨rfl, rfl⟩ := hQ
  have hP : va_P C.1 vwCl (wB C a b) H := hP
  have hD : va_D (q_A (wB C a b) s) (wB C a b) := hD
  refine W.eq (g2 := F0 m 18 ls [.int (nI (bu b 3)), .int (nI (((0 + (bu b 0)) + (bu b 1)) + (bu b 2)))]) rfl ?_
  refine lv_iadd hx hb dX0_allPulls_18 ?_
  refine q_ti (y := nI ((((0 + (bu b 0)) + (bu b 1)) + (bu b 2)) + (bu b 3))) (nI_add _ _) ?_
  refine lv_istore_n (lv' := [(1, .int (nI ((((0 + (bu b 0)) + (bu b 1)) + (bu b 2)) + (bu b 3)))), (2, .int (nI 3)), (0, .ref (a 0))]) hx hb dX0_allPulls_19 rfl hl (by decide) rfl (fun ls hl => ?_)
  refine lv_iinc (v := nI 4) (lv' := [(2, .int (nI 4)), (1, .int (nI ((((0 + (bu b 0)) + (bu b 1)) + (bu b 2)) + (bu b 3)))), (0, .ref (a 0))]) hx hb dX0_allPulls_20 hl (k := 1) rfl (by decide) (by decide) rfl (fun ls hl => ?_)
  refine lv_goto (tgt := 4) hx hb dX0_allPulls_23 (by decide) ?_
  refine lv_iload_n hx hb dX0_allPulls_4 rfl (lv_at hl 0 rfl) ?_
  refine lv_iconst (v := nI 4) hx hb dX0_allPulls_5 (by decide) ?_
  refine lv_icmp_ge (tgt := 26) hx hb dX0_allPulls_6 (by decide) (fun _ => ?_) (fun c => absurd (by decide) c)
  refine lv_iload_n hx hb dX0_allPulls_26 rfl (lv_at hl 1 rfl) ?_
  exact q_iret hx hb hr hlocks (w1 := wB C a b) hP hS rfl dX0_allPulls_27 (⟨congrArg (fun z => some (Value.int (nI z))) (by unfold sumU; omega), rfl⟩)
end
section
/-! boards: writes -/
set_option maxHeartbeats 4000000 in
set_option maxRecDepth 100000 in
theorem c_X0_copy (l : Launch) (C : q_C) (a a1 : Nat → Nat) (b b1 : Bd) : q_M C l yX0_copy wsX0_copy 1 40 [.ref (a 0), .ref (a1 0)] (wB C a b ++ wB C a1 b1) (fun r w => r = none ∧ w = wB C a b1 ++ wB C a1 b1) := by
  refine q_head (cc := cX0_copy) (maxL := 2) (ret := none) (by decide +kernel) rfl (Nat.le_of_ble_eq_true rfl) ?_
  intro p e s m below meth c hx hb hr hlocks hml hown hts hK hP hD hS hA ls hl
  have hl : lv_has ls 2 [(0, .ref (a 0)), (1, .ref (a1 0))] := hl
  have hc1_46 := hts (.methodLink RX0 46 arraycopyName) (by decide +kernel)
  have hc2_46 := hts (.native arraycopyName) (by decide +kernel)
  have hc3_46 := hts (.static arraycopyName) (by decide +kernel)
  have hc4_46 := hts (.initialized "java/lang/System") (by decide +kernel)
  have hf15 := hts (.fieldLink RX0 15 "RestedArms$Board" "goods" "[I") (by decide +kernel)
  have hf18 := hts (.fieldLink RX0 18 "RestedArms$Board" "bads" "[I") (by decide +kernel)
  have hf21 := hts (.fieldLink RX0 21 "RestedArms$Board" "chances" "[I") (by decide +kernel)
  have hf24 := hts (.fieldLink RX0 24 "RestedArms$Board" "places" "[I") (by decide +kernel)
  have hf27 := hts (.fieldLink RX0 27 "RestedArms$Board" "pulls" "[I") (by decide +kernel)
  have hf30 := hts (.fieldLink RX0 30 "RestedArms$Board" "settings" "[I") (by decide +kernel)
  have hf33 := hts (.fieldLink RX0 33 "RestedArms$Board" "last" "I") (by decide +kernel)
  have hf39 := hts (.fieldLink RX0 39 "RestedArms$Board" "weight" "J") (by decide +kernel)
  have hf43 := hts (.fieldLink RX0 43 "RestedArms$Board" "row" "J") (by decide +kernel)
  have hf52 := hts (.fieldLink RX0 52 "RestedArms$Board" "changes" "I") (by decide +kernel)
  have hf55 := hts (.fieldLink RX0 55 "RestedArms$Board" "brought" "J") (by decide +kernel)
  have hf9 := hts (.fieldLink RX0 9 "RestedArms$Board" "gifts" "[I") (by decide +kernel)
  have hin0 : ∀ w ∈ u_ws RX0 TX0 12, w ∈ wsX0_copy := by decide +kernel
  refine lv_aload_n hx hb dX0_copy_0 rfl (lv_at hl 1 rfl) ?_
  refine va_get (ci := 0) (v := .ref (a1 1)) (C := RX0) (T := TX0) (N := 12) hx hb hts hin0 hown hK.1 hP 8 rfl rfl 0 (by decide) hf9 (fun _ h9 => h9) rfl dX0_copy_1 ?_
  refine lv_iconst (v := nI 0) hx hb dX0_copy_4 (by decide) ?_
  refine lv_aload_n hx hb dX0_copy_5 rfl (lv_at hl 0 rfl) ?_
  refine va_get (ci := 0) (v := .ref (a 1)) (C := RX0) (T := TX0) (N := 12) hx hb hts hin0 hown hK.1 hP 0 rfl rfl 0 (by decide) hf9 (fun _ h9 => h9) rfl dX0_copy_6 ?_
  refine lv_iconst (v := nI 0) hx hb dX0_copy_9 (by decide) ?_
  refine lv_bipush (v := nI 16) hx hb dX0_copy_10 (by decide) ?_
  refine q_copyi hx hb (hml.trans hl.1.symm) hown hc1_46 hc2_46 hc3_46 hc4_46 hK hP hD hS 9 1 rfl rfl (by decide) (Nat.le_of_ble_eq_true rfl) (Nat.le_of_ble_eq_true rfl) dX0_copy_12 (fun H locs hP hD hS => ?_)
  have hP : va_P C.1 vwCl (([(a 0, .inr (0, [.ref (a 1), .ref (a 2), .ref (a 3), .ref (a 4), .ref (a 5), .ref (a 6), .ref (a 7), .int (nI (bx b)), .int (nI (bl b) - 1), .long (br b), .long (lN (bw b)), .long (bz b)])), (a 1, .inl (C.2.1, 16, .inl (fun k => nI (bg b1 k)))), (a 2, .inl (C.2.1, 16, .inl (fun k => nI (bo b k)))), (a 3, .inl (C.2.1, 16, .inl (fun k => nI (bb b k)))), (a 4, .inl (C.2.1, 16, .inl (fun k => nI (bc b k)))), (a 5, .inl (C.2.1, 4, .inl (fun k => nI (bp b k)))), (a 6, .inl (C.2.1, 4, .inl (fun k => nI (bu b k)))), (a 7, .inl (C.2.1, 4, .inl (fun k => nI (bs b k))))] : va_W) ++ wB C a1 b1) H := hP
  have hD : va_D (q_A (wB C a b ++ wB C a1 b1) s) (([(a 0, .inr (0, [.ref (a 1), .ref (a 2), .ref (a 3), .ref (a 4), .ref (a 5), .ref (a 6), .ref (a 7), .int (nI (bx b)), .int (nI (bl b) - 1), .long (br b), .long (lN (bw b)), .long (bz b)])), (a 1, .inl (C.2.1, 16, .inl (fun k => nI (bg b1 k)))), (a 2, .inl (C.2.1, 16, .inl (fun k => nI (bo b k)))), (a 3, .inl (C.2.1, 16, .inl (fun k => nI (bb b k)))), (a 4, .inl (C.2.1, 16, .inl (fun k => nI (bc b k)))), (a 5, .inl (C.2.1, 4, .inl (fun k => nI (bp b k)))), (a 6, .inl (C.2.1, 4, .inl (fun k => nI (bu b k)))), (a 7, .inl (C.2.1, 4, .inl (fun k => nI (bs b k))))] : va_W) ++ wB C a1 b1) := hD
  refine lv_aload_n hx hb dX0_copy_15 rfl (lv_at hl 1 rfl) ?_
  refine va_get (ci := 0) (v := .ref (a1 2)) (C := RX0) (T := TX0) (N := 12) hx hb hts hin0 hown hK.1 hP 8 rfl rfl 1 (by decide) hf15 (fun _ h9 => h9) rfl dX0_copy_16 ?_
  refine lv_iconst (v := nI 0) hx hb dX0_copy_19 (by decide) ?_
  refine lv_aload_n hx hb dX0_copy_20 rfl (lv_at hl 0 rfl) ?_
  refine va_get (ci := 0) (v := .ref (a 2)) (C := RX0) (T := TX0) (N := 12) hx hb hts hin0 hown hK.1 hP 0 rfl rfl 1 (by decide) hf15 (fun _ h9 => h9) rfl dX0_copy_21 ?_
  refine lv_iconst (v := nI 0) hx hb dX0_copy_24 (by decide) ?_
  refine lv_bipush (v := nI 16) hx hb dX0_copy_25 (by decide) ?_
  refine q_copyi hx hb (hml.trans hl.1.symm) hown hc1_46 hc2_46 hc3_46 hc4_46 hK hP hD hS 10 2 rfl rfl (by decide) (Nat.le_of_ble_eq_true rfl) (Nat.le_of_ble_eq_true rfl) dX0_copy_27 (fun H locs hP hD hS => ?_)
  have hP : va_P C.1 vwCl (([(a 0, .inr (0, [.ref (a 1), .ref (a 2), .ref (a 3), .ref (a 4), .ref (a 5), .ref (a 6), .ref (a 7), .int (nI (bx b)), .int (nI (bl b) - 1), .long (br b), .long (lN (bw b)), .long (bz b)])), (a 1, .inl (C.2.1, 16, .inl (fun k => nI (bg b1 k)))), (a 2, .inl (C.2.1, 16, .inl (fun k => nI (bo b1 k)))), (a 3, .inl (C.2.1, 16, .inl (fun k => nI (bb b k)))), (a 4, .inl (C.2.1, 16, .inl (fun k => nI (bc b k)))), (a 5, .inl (C.2.1, 4, .inl (fun k => nI (bp b k)))), (a 6, .inl (C.2.1, 4, .inl (fun k => nI (bu b k)))), (a 7, .inl (C.2.1, 4, .inl (fun k => nI (bs b k))))] : va_W) ++ wB C a1 b1) H := hP
  have hD : va_D (q_A (wB C a b ++ wB C a1 b1) s) (([(a 0, .inr (0, [.ref (a 1), .ref (a 2), .ref (a 3), .ref (a 4), .ref (a 5), .ref (a 6), .ref (a 7), .int (nI (bx b)), .int (nI (bl b) - 1), .long (br b), .long (lN (bw b)), .long (bz b)])), (a 1, .inl (C.2.1, 16, .inl (fun k => nI (bg b1 k)))), (a 2, .inl (C.2.1, 16, .inl (fun k => nI (bo b1 k)))), (a 3, .inl (C.2.1, 16, .inl (fun k => nI (bb b k)))), (a 4, .inl (C.2.1, 16, .inl (fun k => nI (bc b k)))), (a 5, .inl (C.2.1, 4, .inl (fun k => nI (bp b k)))), (a 6, .inl (C.2.1, 4, .inl (fun k => nI (bu b k)))), (a 7, .inl (C.2.1, 4, .inl (fun k => nI (bs b k))))] : va_W) ++ wB C a1 b1) := hD
  refine lv_aload_n hx hb dX0_copy_30 rfl (lv_at hl 1 rfl) ?_
  refine va_get (ci := 0) (v := .ref (a1 3)) (C := RX0) (T := TX0) (N := 12) hx hb hts hin0 hown hK.1 hP 8 rfl rfl 2 (by decide) hf18 (fun _ h9 => h9) rfl dX0_copy_31 ?_
  refine lv_iconst (v := nI 0) hx hb dX0_copy_34 (by decide) ?_
  refine lv_aload_n hx hb dX0_copy_35 rfl (lv_at hl 0 rfl) ?_
  refine va_get (ci := 0) (v := .ref (a 3)) (C := RX0) (T := TX0) (N := 12) hx hb hts hin0 hown hK.1 hP 0 rfl rfl 2 (by decide) hf18 (fun _ h9 => h9) rfl dX0_copy_36 ?_
  refine lv_iconst (v := nI 0) hx hb dX0_copy_39 (by decide) ?_
  refine lv_bipush (v := nI 16) hx hb dX0_copy_40 (by decide) ?_
  refine q_copyi hx hb (hml.trans hl.1.symm) hown hc1_46 hc2_46 hc3_46 hc4_46 hK hP hD hS 11 3 rfl rfl (by decide) (Nat.le_of_ble_eq_true rfl) (Nat.le_of_ble_eq_true rfl) dX0_copy_42 (fun H locs hP hD hS => ?_)
  have hP : va_P C.1 vwCl (([(a 0, .inr (0, [.ref (a 1), .ref (a 2), .ref (a 3), .ref (a 4), .ref (a 5), .ref (a 6), .ref (a 7), .int (nI (bx b)), .int (nI (bl b) - 1), .long (br b), .long (lN (bw b)), .long (bz b)])), (a 1, .inl (C.2.1, 16, .inl (fun k => nI (bg b1 k)))), (a 2, .inl (C.2.1, 16, .inl (fun k => nI (bo b1 k)))), (a 3, .inl (C.2.1, 16, .inl (fun k => nI (bb b1 k)))), (a 4, .inl (C.2.1, 16, .inl (fun k => nI (bc b k)))), (a 5, .inl (C.2.1, 4, .inl (fun k => nI (bp b k)))), (a 6, .inl (C.2.1, 4, .inl (fun k => nI (bu b k)))), (a 7, .inl (C.2.1, 4, .inl (fun k => nI (bs b k))))] : va_W) ++ wB C a1 b1) H := hP
  have hD : va_D (q_A (wB C a b ++ wB C a1 b1) s) (([(a 0, .inr (0, [.ref (a 1), .ref (a 2), .ref (a 3), .ref (a 4), .ref (a 5), .ref (a 6), .ref (a 7), .int (nI (bx b)), .int (nI (bl b) - 1), .long (br b), .long (lN (bw b)), .long (bz b)])), (a 1, .inl (C.2.1, 16, .inl (fun k => nI (bg b1 k)))), (a 2, .inl (C.2.1, 16, .inl (fun k => nI (bo b1 k)))), (a 3, .inl (C.2.1, 16, .inl (fun k => nI (bb b1 k)))), (a 4, .inl (C.2.1, 16, .inl (fun k => nI (bc b k)))), (a 5, .inl (C.2.1, 4, .inl (fun k => nI (bp b k)))), (a 6, .inl (C.2.1, 4, .inl (fun k => nI (bu b k)))), (a 7, .inl (C.2.1, 4, .inl (fun k => nI (bs b k))))] : va_W) ++ wB C a1 b1) := hD
  refine lv_aload_n hx hb dX0_copy_45 rfl (lv_at hl 1 rfl) ?_
  refine va_get (ci := 0) (v := .ref (a1 4)) (C := RX0) (T := TX0) (N := 12) hx hb hts hin0 hown hK.1 hP 8 rfl rfl 3 (by decide) hf21 (fun _ h9 => h9) rfl dX0_copy_46 ?_
  refine lv_iconst (v := nI 0) hx hb dX0_copy_49 (by decide) ?_
  refine lv_aload_n hx hb dX0_copy_50 rfl (lv_at hl 0 rfl) ?_
  refine va_get (ci := 0) (v := .ref (a 4)) (C := RX0) (T := TX0) (N := 12) hx hb hts hin0 hown hK.1 hP 0 rfl rfl 3 (by decide) hf21 (fun _ h9 => h9) rfl dX0_copy_51 ?_
  refine lv_iconst (v := nI 0) hx hb dX0_copy_54 (by decide) ?_
  refine lv_bipush (v := nI 16) hx hb dX0_copy_55 (by decide) ?_
  refine q_copyi hx hb (hml.trans hl.1.symm) hown hc1_46 hc2_46 hc3_46 hc4_46 hK hP hD hS 12 4 rfl rfl (by decide) (Nat.le_of_ble_eq_true rfl) (Nat.le_of_ble_eq_true rfl) dX0_copy_57 (fun H locs hP hD hS => ?_)
  have hP : va_P C.1 vwCl (([(a 0, .inr (0, [.ref (a 1), .ref (a 2), .ref (a 3), .ref (a 4), .ref (a 5), .ref (a 6), .ref (a 7), .int (nI (bx b)), .int (nI (bl b) - 1), .long (br b), .long (lN (bw b)), .long (bz b)])), (a 1, .inl (C.2.1, 16, .inl (fun k => nI (bg b1 k)))), (a 2, .inl (C.2.1, 16, .inl (fun k => nI (bo b1 k)))), (a 3, .inl (C.2.1, 16, .inl (fun k => nI (bb b1 k)))), (a 4, .inl (C.2.1, 16, .inl (fun k => nI (bc b1 k)))), (a 5, .inl (C.2.1, 4, .inl (fun k => nI (bp b k)))), (a 6, .inl (C.2.1, 4, .inl (fun k => nI (bu b k)))), (a 7, .inl (C.2.1, 4, .inl (fun k => nI (bs b k))))] : va_W) ++ wB C a1 b1) H := hP
  have hD : va_D (q_A (wB C a b ++ wB C a1 b1) s) (([(a 0, .inr (0, [.ref (a 1), .ref (a 2), .ref (a 3), .ref (a 4), .ref (a 5), .ref (a 6), .ref (a 7), .int (nI (bx b)), .int (nI (bl b) - 1), .long (br b), .long (lN (bw b)), .long (bz b)])), (a 1, .inl (C.2.1, 16, .inl (fun k => nI (bg b1 k)))), (a 2, .inl (C.2.1, 16, .inl (fun k => nI (bo b1 k)))), (a 3, .inl (C.2.1, 16, .inl (fun k => nI (bb b1 k)))), (a 4, .inl (C.2.1, 16, .inl (fun k => nI (bc b1 k)))), (a 5, .inl (C.2.1, 4, .inl (fun k => nI (bp b k)))), (a 6, .inl (C.2.1, 4, .inl (fun k => nI (bu b k)))), (a 7, .inl (C.2.1, 4, .inl (fun k => nI (bs b k))))] : va_W) ++ wB C a1 b1) := hD
  refine lv_aload_n hx hb dX0_copy_60 rfl (lv_at hl 1 rfl) ?_
  refine va_get (ci := 0) (v := .ref (a1 5)) (C := RX0) (T := TX0) (N := 12) hx hb hts hin0 hown hK.1 hP 8 rfl rfl 4 (by decide) hf24 (fun _ h9 => h9) rfl dX0_copy_61 ?_
  refine lv_iconst (v := nI 0) hx hb dX0_copy_64 (by decide) ?_
  refine lv_aload_n hx hb dX0_copy_65 rfl (lv_at hl 0 rfl) ?_
  refine va_get (ci := 0) (v := .ref (a 5)) (C := RX0) (T := TX0) (N := 12) hx hb hts hin0 hown hK.1 hP 0 rfl rfl 4 (by decide) hf24 (fun _ h9 => h9) rfl dX0_copy_66 ?_
  refine lv_iconst (v := nI 0) hx hb dX0_copy_69 (by decide) ?_
  refine lv_iconst (v := nI 4) hx hb dX0_copy_70 (by decide) ?_
  refine q_copyi hx hb (hml.trans hl.1.symm) hown hc1_46 hc2_46 hc3_46 hc4_46 hK hP hD hS 13 5 rfl rfl (by decide) (Nat.le_of_ble_eq_true rfl) (Nat.le_of_ble_eq_true rfl) dX0_copy_71 (fun H locs hP hD hS => ?_)
  have hP : va_P C.1 vwCl (([(a 0, .inr (0, [.ref (a 1), .ref (a 2), .ref (a 3), .ref (a 4), .ref (a 5), .ref (a 6), .ref (a 7), .int (nI (bx b)), .int (nI (bl b) - 1), .long (br b), .long (lN (bw b)), .long (bz b)])), (a 1, .inl (C.2.1, 16, .inl (fun k => nI (bg b1 k)))), (a 2, .inl (C.2.1, 16, .inl (fun k => nI (bo b1 k)))), (a 3, .inl (C.2.1, 16, .inl (fun k => nI (bb b1 k)))), (a 4, .inl (C.2.1, 16, .inl (fun k => nI (bc b1 k)))), (a 5, .inl (C.2.1, 4, .inl (fun k => nI (bp b1 k)))), (a 6, .inl (C.2.1, 4, .inl (fun k => nI (bu b k)))), (a 7, .inl (C.2.1, 4, .inl (fun k => nI (bs b k))))] : va_W) ++ wB C a1 b1) H := hP
  have hD : va_D (q_A (wB C a b ++ wB C a1 b1) s) (([(a 0, .inr (0, [.ref (a 1), .ref (a 2), .ref (a 3), .ref (a 4), .ref (a 5), .ref (a 6), .ref (a 7), .int (nI (bx b)), .int (nI (bl b) - 1), .long (br b), .long (lN (bw b)), .long (bz b)])), (a 1, .inl (C.2.1, 16, .inl (fun k => nI (bg b1 k)))), (a 2, .inl (C.2.1, 16, .inl (fun k => nI (bo b1 k)))), (a 3, .inl (C.2.1, 16, .inl (fun k => nI (bb b1 k)))), (a 4, .inl (C.2.1, 16, .inl (fun k => nI (bc b1 k)))), (a 5, .inl (C.2.1, 4, .inl (fun k => nI (bp b1 k)))), (a 6, .inl (C.2.1, 4, .inl (fun k => nI (bu b k)))), (a 7, .inl (C.2.1, 4, .inl (fun k => nI (bs b k))))] : va_W) ++ wB C a1 b1) := hD
  refine lv_aload_n hx hb dX0_copy_74 rfl (lv_at hl 1 rfl) ?_
  refine va_get (ci := 0) (v := .ref (a1 6)) (C := RX0) (T := TX0) (N := 12) hx hb hts hin0 hown hK.1 hP 8 rfl rfl 5 (by decide) hf27 (fun _ h9 => h9) rfl dX0_copy_75 ?_
  refine lv_iconst (v := nI 0) hx hb dX0_copy_78 (by decide) ?_
  refine lv_aload_n hx hb dX0_copy_79 rfl (lv_at hl 0 rfl) ?_
  refine va_get (ci := 0) (v := .ref (a 6)) (C := RX0) (T := TX0) (N := 12) hx hb hts hin0 hown hK.1 hP 0 rfl rfl 5 (by decide) hf27 (fun _ h9 => h9) rfl dX0_copy_80 ?_
  refine lv_iconst (v := nI 0) hx hb dX0_copy_83 (by decide) ?_
  refine lv_iconst (v := nI 4) hx hb dX0_copy_84 (by decide) ?_
  refine q_copyi hx hb (hml.trans hl.1.symm) hown hc1_46 hc2_46 hc3_46 hc4_46 hK hP hD hS 14 6 rfl rfl (by decide) (Nat.le_of_ble_eq_true rfl) (Nat.le_of_ble_eq_true rfl) dX0_copy_85 (fun H locs hP hD hS => ?_)
  have hP : va_P C.1 vwCl (([(a 0, .inr (0, [.ref (a 1), .ref (a 2), .ref (a 3), .ref (a 4), .ref (a 5), .ref (a 6), .ref (a 7), .int (nI (bx b)), .int (nI (bl b) - 1), .long (br b), .long (lN (bw b)), .long (bz b)])), (a 1, .inl (C.2.1, 16, .inl (fun k => nI (bg b1 k)))), (a 2, .inl (C.2.1, 16, .inl (fun k => nI (bo b1 k)))), (a 3, .inl (C.2.1, 16, .inl (fun k => nI (bb b1 k)))), (a 4, .inl (C.2.1, 16, .inl (fun k => nI (bc b1 k)))), (a 5, .inl (C.2.1, 4, .inl (fun k => nI (bp b1 k)))), (a 6, .inl (C.2.1, 4, .inl (fun k => nI (bu b1 k)))), (a 7, .inl (C.2.1, 4, .inl (fun k => nI (bs b k))))] : va_W) ++ wB C a1 b1) H := hP
  have hD : va_D (q_A (wB C a b ++ wB C a1 b1) s) (([(a 0, .inr (0, [.ref (a 1), .ref (a 2), .ref (a 3), .ref (a 4), .ref (a 5), .ref (a 6), .ref (a 7), .int (nI (bx b)), .int (nI (bl b) - 1), .long (br b), .long (lN (bw b)), .long (bz b)])), (a 1, .inl (C.2.1, 16, .inl (fun k => nI (bg b1 k)))), (a 2, .inl (C.2.1, 16, .inl (fun k => nI (bo b1 k)))), (a 3, .inl (C.2.1, 16, .inl (fun k => nI (bb b1 k)))), (a 4, .inl (C.2.1, 16, .inl (fun k => nI (bc b1 k)))), (a 5, .inl (C.2.1, 4, .inl (fun k => nI (bp b1 k)))), (a 6, .inl (C.2.1, 4, .inl (fun k => nI (bu b1 k)))), (a 7, .inl (C.2.1, 4, .inl (fun k => nI (bs b k))))] : va_W) ++ wB C a1 b1) := hD
  refine lv_aload_n hx hb dX0_copy_88 rfl (lv_at hl 1 rfl) ?_
  refine va_get (ci := 0) (v := .ref (a1 7)) (C := RX0) (T := TX0) (N := 12) hx hb hts hin0 hown hK.1 hP 8 rfl rfl 6 (by decide) hf30 (fun _ h9 => h9) rfl dX0_copy_89 ?_
  refine lv_iconst (v := nI 0) hx hb dX0_copy_92 (by decide) ?_
  refine lv_aload_n hx hb dX0_copy_93 rfl (lv_at hl 0 rfl) ?_
  refine va_get (ci := 0) (v := .ref (a 7)) (C := RX0) (T := TX0) (N := 12) hx hb hts hin0 hown hK.1 hP 0 rfl rfl 6 (by decide) hf30 (fun _ h9 => h9) rfl dX0_copy_94 ?_
  refine lv_iconst (v := nI 0) hx hb dX0_copy_97 (by decide) ?_
  refine lv_iconst (v := nI 4) hx hb dX0_copy_98 (by decide) ?_
  refine q_copyi hx hb (hml.trans hl.1.symm) hown hc1_46 hc2_46 hc3_46 hc4_46 hK hP hD hS 15 7 rfl rfl (by decide) (Nat.le_of_ble_eq_true rfl) (Nat.le_of_ble_eq_true rfl) dX0_copy_99 (fun H locs hP hD hS => ?_)
  have hP : va_P C.1 vwCl (([(a 0, .inr (0, [.ref (a 1), .ref (a 2), .ref (a 3), .ref (a 4), .ref (a 5), .ref (a 6), .ref (a 7), .int (nI (bx b)), .int (nI (bl b) - 1), .long (br b), .long (lN (bw b)), .long (bz b)])), (a 1, .inl (C.2.1, 16, .inl (fun k => nI (bg b1 k)))), (a 2, .inl (C.2.1, 16, .inl (fun k => nI (bo b1 k)))), (a 3, .inl (C.2.1, 16, .inl (fun k => nI (bb b1 k)))), (a 4, .inl (C.2.1, 16, .inl (fun k => nI (bc b1 k)))), (a 5, .inl (C.2.1, 4, .inl (fun k => nI (bp b1 k)))), (a 6, .inl (C.2.1, 4, .inl (fun k => nI (bu b1 k)))), (a 7, .inl (C.2.1, 4, .inl (fun k => nI (bs b1 k))))] : va_W) ++ wB C a1 b1) H := hP
  have hD : va_D (q_A (wB C a b ++ wB C a1 b1) s) (([(a 0, .inr (0, [.ref (a 1), .ref (a 2), .ref (a 3), .ref (a 4), .ref (a 5), .ref (a 6), .ref (a 7), .int (nI (bx b)), .int (nI (bl b) - 1), .long (br b), .long (lN (bw b)), .long (bz b)])), (a 1, .inl (C.2.1, 16, .inl (fun k => nI (bg b1 k)))), (a 2, .inl (C.2.1, 16, .inl (fun k => nI (bo b1 k)))), (a 3, .inl (C.2.1, 16, .inl (fun k => nI (bb b1 k)))), (a 4, .inl (C.2.1, 16, .inl (fun k => nI (bc b1 k)))), (a 5, .inl (C.2.1, 4, .inl (fun k => nI (bp b1 k)))), (a 6, .inl (C.2.1, 4, .inl (fun k => nI (bu b1 k)))), (a 7, .inl (C.2.1, 4, .inl (fun k => nI (bs b1 k))))] : va_W) ++ wB C a1 b1) := hD
  refine lv_aload_n hx hb dX0_copy_102 rfl (lv_at hl 0 rfl) ?_
  refine lv_aload_n hx hb dX0_copy_103 rfl (lv_at hl 1 rfl) ?_
  refine va_get (ci := 0) (v := .int (nI (bx b1))) (C := RX0) (T := TX0) (N := 12) hx hb hts hin0 hown hK.1 hP 8 rfl rfl 7 (by decide) hf52 (fun _ h9 => h9) rfl dX0_copy_104 ?_
  refine va_put (ci := 0) (v := .int (nI (bx b1))) (ty := .int) (C := RX0) (T := TX0) (N := 12) hx hb hts hin0 tyX0 tyX0_ok nmX0 hown hK.1 hP hD hS 0 rfl rfl 7 (by decide) hf52 (fun _ h9 => h9) rfl (by decide +kernel) rfl rfl (Nat.le_of_ble_eq_true rfl) dX0_copy_107 (fun H locs hP hD hS => ?_)
  have hP : va_P C.1 vwCl (([(a 0, .inr (0, [.ref (a 1), .ref (a 2), .ref (a 3), .ref (a 4), .ref (a 5), .ref (a 6), .ref (a 7), .int (nI (bx b1)), .int (nI (bl b) - 1), .long (br b), .long (lN (bw b)), .long (bz b)])), (a 1, .inl (C.2.1, 16, .inl (fun k => nI (bg b1 k)))), (a 2, .inl (C.2.1, 16, .inl (fun k => nI (bo b1 k)))), (a 3, .inl (C.2.1, 16, .inl (fun k => nI (bb b1 k)))), (a 4, .inl (C.2.1, 16, .inl (fun k => nI (bc b1 k)))), (a 5, .inl (C.2.1, 4, .inl (fun k => nI (bp b1 k)))), (a 6, .inl (C.2.1, 4, .inl (fun k => nI (bu b1 k)))), (a 7, .inl (C.2.1, 4, .inl (fun k => nI (bs b1 k))))] : va_W) ++ wB C a1 b1) H := hP
  have hD : va_D (q_A (wB C a b ++ wB C a1 b1) s) (([(a 0, .inr (0, [.ref (a 1), .ref (a 2), .ref (a 3), .ref (a 4), .ref (a 5), .ref (a 6), .ref (a 7), .int (nI (bx b1)), .int (nI (bl b) - 1), .long (br b), .long (lN (bw b)), .long (bz b)])), (a 1, .inl (C.2.1, 16, .inl (fun k => nI (bg b1 k)))), (a 2, .inl (C.2.1, 16, .inl (fun k => nI (bo b1 k)))), (a 3, .inl (C.2.1, 16, .inl (fun k => nI (bb b1 k)))), (a 4, .inl (C.2.1, 16, .inl (fun k => nI (bc b1 k)))), (a 5, .inl (C.2.1, 4, .inl (fun k => nI (bp b1 k)))), (a 6, .inl (C.2.1, 4, .inl (fun k => nI (bu b1 k)))), (a 7, .inl (C.2.1, 4, .inl (fun k => nI (bs b1 k))))] : va_W) ++ wB C a1 b1) := hD
  refine lv_aload_n hx hb dX0_copy_110 rfl (lv_at hl 0 rfl) ?_
  refine lv_aload_n hx hb dX0_copy_111 rfl (lv_at hl 1 rfl) ?_
  refine va_get (ci := 0) (v := .int (nI (bl b1) - 1)) (C := RX0) (T := TX0) (N := 12) hx hb hts hin0 hown hK.1 hP 8 rfl rfl 8 (by decide) hf33 (fun _ h9 => h9) rfl dX0_copy_112 ?_
  refine va_put (ci := 0) (v := .int (nI (bl b1) - 1)) (ty := .int) (C := RX0) (T := TX0) (N := 12) hx hb hts hin0 tyX0 tyX0_ok nmX0 hown hK.1 hP hD hS 0 rfl rfl 8 (by decide) hf33 (fun _ h9 => h9) rfl (by decide +kernel) rfl rfl (Nat.le_of_ble_eq_true rfl) dX0_copy_115 (fun H locs hP hD hS => ?_)
  have hP : va_P C.1 vwCl (([(a 0, .inr (0, [.ref (a 1), .ref (a 2), .ref (a 3), .ref (a 4), .ref (a 5), .ref (a 6), .ref (a 7), .int (nI (bx b1)), .int (nI (bl b1) - 1), .long (br b), .long (lN (bw b)), .long (bz b)])), (a 1, .inl (C.2.1, 16, .inl (fun k => nI (bg b1 k)))), (a 2, .inl (C.2.1, 16, .inl (fun k => nI (bo b1 k)))), (a 3, .inl (C.2.1, 16, .inl (fun k => nI (bb b1 k)))), (a 4, .inl (C.2.1, 16, .inl (fun k => nI (bc b1 k)))), (a 5, .inl (C.2.1, 4, .inl (fun k => nI (bp b1 k)))), (a 6, .inl (C.2.1, 4, .inl (fun k => nI (bu b1 k)))), (a 7, .inl (C.2.1, 4, .inl (fun k => nI (bs b1 k))))] : va_W) ++ wB C a1 b1) H := hP
  have hD : va_D (q_A (wB C a b ++ wB C a1 b1) s) (([(a 0, .inr (0, [.ref (a 1), .ref (a 2), .ref (a 3), .ref (a 4), .ref (a 5), .ref (a 6), .ref (a 7), .int (nI (bx b1)), .int (nI (bl b1) - 1), .long (br b), .long (lN (bw b)), .long (bz b)])), (a 1, .inl (C.2.1, 16, .inl (fun k => nI (bg b1 k)))), (a 2, .inl (C.2.1, 16, .inl (fun k => nI (bo b1 k)))), (a 3, .inl (C.2.1, 16, .inl (fun k => nI (bb b1 k)))), (a 4, .inl (C.2.1, 16, .inl (fun k => nI (bc b1 k)))), (a 5, .inl (C.2.1, 4, .inl (fun k => nI (bp b1 k)))), (a 6, .inl (C.2.1, 4, .inl (fun k => nI (bu b1 k)))), (a 7, .inl (C.2.1, 4, .inl (fun k => nI (bs b1 k))))] : va_W) ++ wB C a1 b1) := hD
  refine lv_aload_n hx hb dX0_copy_118 rfl (lv_at hl 0 rfl) ?_
  refine lv_aload_n hx hb dX0_copy_119 rfl (lv_at hl 1 rfl) ?_
  refine va_get (ci := 0) (v := .long (br b1)) (C := RX0) (T := TX0) (N := 12) hx hb hts hin0 hown hK.1 hP 8 rfl rfl 9 (by decide) hf55 (fun _ h9 => h9) rfl dX0_copy_120 ?_
  refine va_put (ci := 0) (v := .long (br b1)) (ty := .long) (C := RX0) (T := TX0) (N := 12) hx hb hts hin0 tyX0 tyX0_ok nmX0 hown hK.1 hP hD hS 0 rfl rfl 9 (by decide) hf55 (fun _ h9 => h9) rfl (by decide +kernel) rfl rfl (Nat.le_of_ble_eq_true rfl) dX0_copy_123 (fun H locs hP hD hS => ?_)
  have hP : va_P C.1 vwCl (([(a 0, .inr (0, [.ref (a 1), .ref (a 2), .ref (a 3), .ref (a 4), .ref (a 5), .ref (a 6), .ref (a 7), .int (nI (bx b1)), .int (nI (bl b1) - 1), .long (br b1), .long (lN (bw b)), .long (bz b)])), (a 1, .inl (C.2.1, 16, .inl (fun k => nI (bg b1 k)))), (a 2, .inl (C.2.1, 16, .inl (fun k => nI (bo b1 k)))), (a 3, .inl (C.2.1, 16, .inl (fun k => nI (bb b1 k)))), (a 4, .inl (C.2.1, 16, .inl (fun k => nI (bc b1 k)))), (a 5, .inl (C.2.1, 4, .inl (fun k => nI (bp b1 k)))), (a 6, .inl (C.2.1, 4, .inl (fun k => nI (bu b1 k)))), (a 7, .inl (C.2.1, 4, .inl (fun k => nI (bs b1 k))))] : va_W) ++ wB C a1 b1) H := hP
  have hD : va_D (q_A (wB C a b ++ wB C a1 b1) s) (([(a 0, .inr (0, [.ref (a 1), .ref (a 2), .ref (a 3), .ref (a 4), .ref (a 5), .ref (a 6), .ref (a 7), .int (nI (bx b1)), .int (nI (bl b1) - 1), .long (br b1), .long (lN (bw b)), .long (bz b)])), (a 1, .inl (C.2.1, 16, .inl (fun k => nI (bg b1 k)))), (a 2, .inl (C.2.1, 16, .inl (fun k => nI (bo b1 k)))), (a 3, .inl (C.2.1, 16, .inl (fun k => nI (bb b1 k)))), (a 4, .inl (C.2.1, 16, .inl (fun k => nI (bc b1 k)))), (a 5, .inl (C.2.1, 4, .inl (fun k => nI (bp b1 k)))), (a 6, .inl (C.2.1, 4, .inl (fun k => nI (bu b1 k)))), (a 7, .inl (C.2.1, 4, .inl (fun k => nI (bs b1 k))))] : va_W) ++ wB C a1 b1) := hD
  refine lv_aload_n hx hb dX0_copy_126 rfl (lv_at hl 0 rfl) ?_
  refine lv_aload_n hx hb dX0_copy_127 rfl (lv_at hl 1 rfl) ?_
  refine va_get (ci := 0) (v := .long (lN (bw b1))) (C := RX0) (T := TX0) (N := 12) hx hb hts hin0 hown hK.1 hP 8 rfl rfl 10 (by decide) hf39 (fun _ h9 => h9) rfl dX0_copy_128 ?_
  refine va_put (ci := 0) (v := .long (lN (bw b1))) (ty := .long) (C := RX0) (T := TX0) (N := 12) hx hb hts hin0 tyX0 tyX0_ok nmX0 hown hK.1 hP hD hS 0 rfl rfl 10 (by decide) hf39 (fun _ h9 => h9) rfl (by decide +kernel) rfl rfl (Nat.le_of_ble_eq_true rfl) dX0_copy_131 (fun H locs hP hD hS => ?_)
  have hP : va_P C.1 vwCl (([(a 0, .inr (0, [.ref (a 1), .ref (a 2), .ref (a 3), .ref (a 4), .ref (a 5), .ref (a 6), .ref (a 7), .int (nI (bx b1)), .int (nI (bl b1) - 1), .long (br b1), .long (lN (bw b1)), .long (bz b)])), (a 1, .inl (C.2.1, 16, .inl (fun k => nI (bg b1 k)))), (a 2, .inl (C.2.1, 16, .inl (fun k => nI (bo b1 k)))), (a 3, .inl (C.2.1, 16, .inl (fun k => nI (bb b1 k)))), (a 4, .inl (C.2.1, 16, .inl (fun k => nI (bc b1 k)))), (a 5, .inl (C.2.1, 4, .inl (fun k => nI (bp b1 k)))), (a 6, .inl (C.2.1, 4, .inl (fun k => nI (bu b1 k)))), (a 7, .inl (C.2.1, 4, .inl (fun k => nI (bs b1 k))))] : va_W) ++ wB C a1 b1) H := hP
  have hD : va_D (q_A (wB C a b ++ wB C a1 b1) s) (([(a 0, .inr (0, [.ref (a 1), .ref (a 2), .ref (a 3), .ref (a 4), .ref (a 5), .ref (a 6), .ref (a 7), .int (nI (bx b1)), .int (nI (bl b1) - 1), .long (br b1), .long (lN (bw b1)), .long (bz b)])), (a 1, .inl (C.2.1, 16, .inl (fun k => nI (bg b1 k)))), (a 2, .inl (C.2.1, 16, .inl (fun k => nI (bo b1 k)))), (a 3, .inl (C.2.1, 16, .inl (fun k => nI (bb b1 k)))), (a 4, .inl (C.2.1, 16, .inl (fun k => nI (bc b1 k)))), (a 5, .inl (C.2.1, 4, .inl (fun k => nI (bp b1 k)))), (a 6, .inl (C.2.1, 4, .inl (fun k => nI (bu b1 k)))), (a 7, .inl (C.2.1, 4, .inl (fun k => nI (bs b1 k))))] : va_W) ++ wB C a1 b1) := hD
  refine lv_aload_n hx hb dX0_copy_134 rfl (lv_at hl 0 rfl) ?_
  refine lv_aload_n hx hb dX0_copy_135 rfl (lv_at hl 1 rfl) ?_
  refine va_get (ci := 0) (v := .long (bz b1)) (C := RX0) (T := TX0) (N := 12) hx hb hts hin0 hown hK.1 hP 8 rfl rfl 11 (by decide) hf43 (fun _ h9 => h9) rfl dX0_copy_136 ?_
  refine va_put (ci := 0) (v := .long (bz b1)) (ty := .long) (C := RX0) (T := TX0) (N := 12) hx hb hts hin0 tyX0 tyX0_ok nmX0 hown hK.1 hP hD hS 0 rfl rfl 11 (by decide) hf43 (fun _ h9 => h9) rfl (by decide +kernel) rfl rfl (Nat.le_of_ble_eq_true rfl) dX0_copy_139 (fun H locs hP hD hS => ?_)
  have hP : va_P C.1 vwCl (([(a 0, .inr (0, [.ref (a 1), .ref (a 2), .ref (a 3), .ref (a 4), .ref (a 5), .ref (a 6), .ref (a 7), .int (nI (bx b1)), .int (nI (bl b1) - 1), .long (br b1), .long (lN (bw b1)), .long (bz b1)])), (a 1, .inl (C.2.1, 16, .inl (fun k => nI (bg b1 k)))), (a 2, .inl (C.2.1, 16, .inl (fun k => nI (bo b1 k)))), (a 3, .inl (C.2.1, 16, .inl (fun k => nI (bb b1 k)))), (a 4, .inl (C.2.1, 16, .inl (fun k => nI (bc b1 k)))), (a 5, .inl (C.2.1, 4, .inl (fun k => nI (bp b1 k)))), (a 6, .inl (C.2.1, 4, .inl (fun k => nI (bu b1 k)))), (a 7, .inl (C.2.1, 4, .inl (fun k => nI (bs b1 k))))] : va_W) ++ wB C a1 b1) H := hP
  have hD : va_D (q_A (wB C a b ++ wB C a1 b1) s) (([(a 0, .inr (0, [.ref (a 1), .ref (a 2), .ref (a 3), .ref (a 4), .ref (a 5), .ref (a 6), .ref (a 7), .int (nI (bx b1)), .int (nI (bl b1) - 1), .long (br b1), .long (lN (bw b1)), .long (bz b1)])), (a 1, .inl (C.2.1, 16, .inl (fun k => nI (bg b1 k)))), (a 2, .inl (C.2.1, 16, .inl (fun k => nI (bo b1 k)))), (a 3, .inl (C.2.1, 16, .inl (fun k => nI (bb b1 k)))), (a 4, .inl (C.2.1, 16, .inl (fun k => nI (bc b1 k)))), (a 5, .inl (C.2.1, 4, .inl (fun k => nI (bp b1 k)))), (a 6, .inl (C.2.1, 4, .inl (fun k => nI (bu b1 k)))), (a 7, .inl (C.2.1, 4, .inl (fun k => nI (bs b1 k))))] : va_W) ++ wB C a1 b1) := hD
  exact q_vret hx hb hr hlocks (w1 := ([(a 0, .inr (0, [.ref (a 1), .ref (a 2), .ref (a 3), .ref (a 4), .ref (a 5), .ref (a 6), .ref (a 7), .int (nI (bx b1)), .int (nI (bl b1) - 1), .long (br b1), .long (lN (bw b1)), .long (bz b1)])), (a 1, .inl (C.2.1, 16, .inl (fun k => nI (bg b1 k)))), (a 2, .inl (C.2.1, 16, .inl (fun k => nI (bo b1 k)))), (a 3, .inl (C.2.1, 16, .inl (fun k => nI (bb b1 k)))), (a 4, .inl (C.2.1, 16, .inl (fun k => nI (bc b1 k)))), (a 5, .inl (C.2.1, 4, .inl (fun k => nI (bp b1 k)))), (a 6, .inl (C.2.1, 4, .inl (fun k => nI (bu b1 k)))), (a 7, .inl (C.2.1, 4, .inl (fun k => nI (bs b1 k))))] : va_W) ++ wB C a1 b1) hP hS rfl dX0_copy_142 (⟨rfl, rfl⟩)
set_option maxHeartbeats 4000000 in
set_option maxRecDepth 100000 in
theorem c_X0_beginAnew (l : Launch) (C : q_C) (a : Nat → Nat) (b : Bd) (x : Int64) : q_M C l yX0_beginAnew wsX0_beginAnew 1 22 [.ref (a 0), .long x] (wB C a b) (fun r w => r = none ∧ w = wB C a (begB b x)) := by
  refine q_head (cc := cX0_beginAnew) (maxL := 4) (ret := none) (by decide +kernel) rfl (Nat.le_of_ble_eq_true rfl) ?_
  intro p e s m below meth c hx hb hr hlocks hml hown hts hK hP hD hS hA ls hl
  have hl : lv_has ls 4 [(0, .ref (a 0)), (1, .long x)] := hl
  have hf24 := hts (.fieldLink RX0 24 "RestedArms$Board" "places" "[I") (by decide +kernel)
  have hf27 := hts (.fieldLink RX0 27 "RestedArms$Board" "pulls" "[I") (by decide +kernel)
  have hf33 := hts (.fieldLink RX0 33 "RestedArms$Board" "last" "I") (by decide +kernel)
  have hf39 := hts (.fieldLink RX0 39 "RestedArms$Board" "weight" "J") (by decide +kernel)
  have hf43 := hts (.fieldLink RX0 43 "RestedArms$Board" "row" "J") (by decide +kernel)
  have hf52 := hts (.fieldLink RX0 52 "RestedArms$Board" "changes" "I") (by decide +kernel)
  have hf55 := hts (.fieldLink RX0 55 "RestedArms$Board" "brought" "J") (by decide +kernel)
  have hin0 : ∀ w ∈ u_ws RX0 TX0 12, w ∈ wsX0_beginAnew := by decide +kernel
  have hk37 := hts (.constantLong RX0 37 (1000000)) (by decide +kernel)
  refine lv_iconst (v := nI 0) hx hb dX0_beginAnew_0 (by decide) ?_
  refine lv_istore_n (lv' := [(3, .int (nI 0)), (0, .ref (a 0)), (1, .long x)]) hx hb dX0_beginAnew_1 rfl hl (by decide) rfl (fun ls hl => ?_)
  refine lv_iload_n hx hb dX0_beginAnew_2 rfl (lv_at hl 0 rfl) ?_
  refine lv_iconst (v := nI 4) hx hb dX0_beginAnew_3 (by decide) ?_
  refine lv_icmp_ge (tgt := 31) hx hb dX0_beginAnew_4 (by decide) (fun c => absurd c (by decide)) (fun _ => ?_)
  refine lv_aload_n hx hb dX0_beginAnew_7 rfl (lv_at hl 1 rfl) ?_
  refine va_get (ci := 0) (v := .ref (a 5)) (C := RX0) (T := TX0) (N := 12) hx hb hts hin0 hown hK.1 hP 0 rfl rfl 4 (by decide) hf24 (fun _ h9 => h9) rfl dX0_beginAnew_8 ?_
  refine lv_iload_n hx hb dX0_beginAnew_11 rfl (lv_at hl 0 rfl) ?_
  refine lv_iconst (v := nI 0) hx hb dX0_beginAnew_12 (by decide) ?_
  refine q_N (As := [.ref (a 5), .int (nI 0), .int (nI 0)]) (rest := []) ⟨hx, hb, hml, hown, hts⟩ (c_X4_store l C (a 5) 4 0 (fun k => nI (bp b k)) (nI 0) (by decide) (by decide)) ⟨va_cnB 3 hts gX0_beginAnew_X4_store_n58 rfl rfl rfl (q_nw hK 0 rfl) (hts (.initialized RX4) (by decide +kernel)) (by decide +kernel) ⟨Nat.le_of_ble_eq_true rfl, Nat.le_of_ble_eq_true rfl⟩, hts (.static yX4_store) (by decide +kernel), trivial⟩ hK hP hD hS hA [5] (by decide) rfl rfl hl.1 rfl (Nat.le_of_ble_eq_true rfl) dX0_beginAnew_13 (Nat.zero_le _) (Nat.zero_le _) (fun r w1 H locs hQ hP hD hS => ?_)
  obtain ⟨rfl, rfl⟩ := hQ
  rw [q_upd] at hP hD
  have hP : va_P C.1 vwCl ([(a 0, .inr (0, [.ref (a 1), .ref (a 2), .ref (a 3), .ref (a 4), .ref (a 5), .ref (a 6), .ref (a 7), .int (nI (bx b)), .int (nI (bl b) - 1), .long (br b), .long (lN (bw b)), .long (bz b)])), (a 1, .inl (C.2.1, 16, .inl (fun k => nI (bg b k)))), (a 2, .inl (C.2.1, 16, .inl (fun k => nI (bo b k)))), (a 3, .inl (C.2.1, 16, .inl (fun k => nI (bb b k)))), (a 4, .inl (C.2.1, 16, .inl (fun k => nI (bc b k)))), (a 5, .inl (C.2.1, 4, .inl (fun k => nI (upN (bp b) 0 0 k)))), (a 6, .inl (C.2.1, 4, .inl (fun k => nI (bu b k)))), (a 7, .inl (C.2.1, 4, .inl (fun k => nI (bs b k))))]) H := hP
  have hD : va_D (q_A (wB C a b) s) ([(a 0, .inr (0, [.ref (a 1), .ref (a 2), .ref (a 3), .ref (a 4), .ref (a 5), .ref (a 6), .ref (a 7), .int (nI (bx b)), .int (nI (bl b) - 1), .long (br b), .long (lN (bw b)), .long (bz b)])), (a 1, .inl (C.2.1, 16, .inl (fun k => nI (bg b k)))), (a 2, .inl (C.2.1, 16, .inl (fun k => nI (bo b k)))), (a 3, .inl (C.2.1, 16, .inl (fun k => nI (bb b k)))), (a 4, .inl (C.2.1, 16, .inl (fun k => nI (bc b k)))), (a 5, .inl (C.2.1, 4, .inl (fun k => nI (upN (bp b) 0 0 k)))), (a 6, .inl (C.2.1, 4, .inl (fun k => nI (bu b k)))), (a 7, .inl (C.2.1, 4, .inl (fun k => nI (bs b k))))]) := hD
  refine W.eq (g2 := F0 m 16 ls []) rfl ?_
  refine lv_aload_n hx hb dX0_beginAnew_16 rfl (lv_at hl 1 rfl) ?_
  refine va_get (ci := 0) (v := .ref (a 6)) (C := RX0) (T := TX0) (N := 12) hx hb hts hin0 hown hK.1 hP 0 rfl rfl 5 (by decide) hf27 (fun _ h9 => h9) rfl dX0_beginAnew_17 ?_
  refine lv_iload_n hx hb dX0_beginAnew_20 rfl (lv_at hl 0 rfl) ?_
  refine lv_iconst (v := nI 0) hx hb dX0_beginAnew_21 (by decide) ?_
  refine q_N (As := [.ref (a 6), .int (nI 0), .int (nI 0)]) (rest := []) ⟨hx, hb, hml, hown, hts⟩ (c_X4_store l C (a 6) 4 0 (fun k => nI (bu b k)) (nI 0) (by decide) (by decide)) ⟨va_cnB 3 hts gX0_beginAnew_X4_store_n58 rfl rfl rfl (q_nw hK 0 rfl) (hts (.initialized RX4) (by decide +kernel)) (by decide +kernel) ⟨Nat.le_of_ble_eq_true rfl, Nat.le_of_ble_eq_true rfl⟩, hts (.static yX4_store) (by decide +kernel), trivial⟩ hK hP hD hS hA [6] (by decide) rfl rfl hl.1 rfl (Nat.le_of_ble_eq_true rfl) dX0_beginAnew_22 (Nat.zero_le _) (Nat.zero_le _) (fun r w1 H locs hQ hP hD hS => ?_)
  obtain ⟨rfl, rfl⟩ := hQ
  rw [q_upd] at hP hD
  have hP : va_P C.1 vwCl ([(a 0, .inr (0, [.ref (a 1), .ref (a 2), .ref (a 3), .ref (a 4), .ref (a 5), .ref (a 6), .ref (a 7), .int (nI (bx b)), .int (nI (bl b) - 1), .long (br b), .long (lN (bw b)), .long (bz b)])), (a 1, .inl (C.2.1, 16, .inl (fun k => nI (bg b k)))), (a 2, .inl (C.2.1, 16, .inl (fun k => nI (bo b k)))), (a 3, .inl (C.2.1, 16, .inl (fun k => nI (bb b k)))), (a 4, .inl (C.2.1, 16, .inl (fun k => nI (bc b k)))), (a 5, .inl (C.2.1, 4, .inl (fun k => nI (upN (bp b) 0 0 k)))), (a 6, .inl (C.2.1, 4, .inl (fun k => nI (upN (bu b) 0 0 k)))), (a 7, .inl (C.2.1, 4, .inl (fun k => nI (bs b k))))]) H := hP
  have hD : va_D (q_A (wB C a b) s) ([(a 0, .inr (0, [.ref (a 1), .ref (a 2), .ref (a 3), .ref (a 4), .ref (a 5), .ref (a 6), .ref (a 7), .int (nI (bx b)), .int (nI (bl b) - 1), .long (br b), .long (lN (bw b)), .long (bz b)])), (a 1, .inl (C.2.1, 16, .inl (fun k => nI (bg b k)))), (a 2, .inl (C.2.1, 16, .inl (fun k => nI (bo b k)))), (a 3, .inl (C.2.1, 16, .inl (fun k => nI (bb b k)))), (a 4, .inl (C.2.1, 16, .inl (fun k => nI (bc b k)))), (a 5, .inl (C.2.1, 4, .inl (fun k => nI (upN (bp b) 0 0 k)))), (a 6, .inl (C.2.1, 4, .inl (fun k => nI (upN (bu b) 0 0 k)))), (a 7, .inl (C.2.1, 4, .inl (fun k => nI (bs b k))))]) := hD
  refine W.eq (g2 := F0 m 25 ls []) rfl ?_
  refine lv_iinc (v := nI 1) (lv' := [(3, .int (nI 1)), (0, .ref (a 0)), (1, .long x)]) hx hb dX0_beginAnew_25 hl (k := 0) rfl (by decide) (by decide) rfl (fun ls hl => ?_)
  refine lv_goto (tgt := 2) hx hb dX0_beginAnew_28 (by decide) ?_
  refine lv_iload_n hx hb dX0_beginAnew_2 rfl (lv_at hl 0 rfl) ?_
  refine lv_iconst (v := nI 4) hx hb dX0_beginAnew_3 (by decide) ?_
  refine lv_icmp_ge (tgt := 31) hx hb dX0_beginAnew_4 (by decide) (fun c => absurd c (by decide)) (fun _ => ?_)
  refine lv_aload_n hx hb dX0_beginAnew_7 rfl (lv_at hl 1 rfl) ?_
  refine va_get (ci := 0) (v := .ref (a 5)) (C := RX0) (T := TX0) (N := 12) hx hb hts hin0 hown hK.1 hP 0 rfl rfl 4 (by decide) hf24 (fun _ h9 => h9) rfl dX0_beginAnew_8 ?_
  refine lv_iload_n hx hb dX0_beginAnew_11 rfl (lv_at hl 0 rfl) ?_
  refine lv_iconst (v := nI 0) hx hb dX0_beginAnew_12 (by decide) ?_
  refine q_N (As := [.ref (a 5), .int (nI 1), .int (nI 0)]) (rest := []) ⟨hx, hb, hml, hown, hts⟩ (c_X4_store l C (a 5) 4 1 (fun k => nI (upN (bp b) 0 0 k)) (nI 0) (by decide) (by decide)) ⟨va_cnB 3 hts gX0_beginAnew_X4_store_n58 rfl rfl rfl (q_nw hK 0 rfl) (hts (.initialized RX4) (by decide +kernel)) (by decide +kernel) ⟨Nat.le_of_ble_eq_true rfl, Nat.le_of_ble_eq_true rfl⟩, hts (.static yX4_store) (by decide +kernel), trivial⟩ hK hP hD hS hA [5] (by decide) rfl rfl hl.1 rfl (Nat.le_of_ble_eq_true rfl) dX0_beginAnew_13 (Nat.zero_le _) (Nat.zero_le _) (fun r w1 H locs hQ hP hD hS => ?_)
  obtain ⟨rfl, rfl⟩ := hQ
  rw [q_upd] at hP hD
  have hP : va_P C.1 vwCl ([(a 0, .inr (0, [.ref (a 1), .ref (a 2), .ref (a 3), .ref (a 4), .ref (a 5), .ref (a 6), .ref (a 7), .int (nI (bx b)), .int (nI (bl b) - 1), .long (br b), .long (lN (bw b)), .long (bz b)])), (a 1, .inl (C.2.1, 16, .inl (fun k => nI (bg b k)))), (a 2, .inl (C.2.1, 16, .inl (fun k => nI (bo b k)))), (a 3, .inl (C.2.1, 16, .inl (fun k => nI (bb b k)))), (a 4, .inl (C.2.1, 16, .inl (fun k => nI (bc b k)))), (a 5, .inl (C.2.1, 4, .inl (fun k => nI (upN (upN (bp b) 0 0) 1 0 k)))), (a 6, .inl (C.2.1, 4, .inl (fun k => nI (upN (bu b) 0 0 k)))), (a 7, .inl (C.2.1, 4, .inl (fun k => nI (bs b k))))]) H := hP
  have hD : va_D (q_A (wB C a b) s) ([(a 0, .inr (0, [.ref (a 1), .ref (a 2), .ref (a 3), .ref (a 4), .ref (a 5), .ref (a 6), .ref (a 7), .int (nI (bx b)), .int (nI (bl b) - 1), .long (br b), .long (lN (bw b)), .long (bz b)])), (a 1, .inl (C.2.1, 16, .inl (fun k => nI (bg b k)))), (a 2, .inl (C.2.1, 16, .inl (fun k => nI (bo b k)))), (a 3, .inl (C.2.1, 16, .inl (fun k => nI (bb b k)))), (a 4, .inl (C.2.1, 16, .inl (fun k => nI (bc b k)))), (a 5, .inl (C.2.1, 4, .inl (fun k => nI (upN (upN (bp b) 0 0) 1 0 k)))), (a 6, .inl (C.2.1, 4, .inl (fun k => nI (upN (bu b) 0 0 k)))), (a 7, .inl (C.2.1, 4, .inl (fun k => nI (bs b k))))]) := hD
  refine W.eq (g2 := F0 m 16 ls []) rfl ?_
  refine lv_aload_n hx hb dX0_beginAnew_16 rfl (lv_at hl 1 rfl) ?_
  refine va_get (ci := 0) (v := .ref (a 6)) (C := RX0) (T := TX0) (N := 12) hx hb hts hin0 hown hK.1 hP 0 rfl rfl 5 (by decide) hf27 (fun _ h9 => h9) rfl dX0_beginAnew_17 ?_
  refine lv_iload_n hx hb dX0_beginAnew_20 rfl (lv_at hl 0 rfl) ?_
  refine lv_iconst (v := nI 0) hx hb dX0_beginAnew_21 (by decide) ?_
  refine q_N (As := [.ref (a 6), .int (nI 1), .int (nI 0)]) (rest := []) ⟨hx, hb, hml, hown, hts⟩ (c_X4_store l C (a 6) 4 1 (fun k => nI (upN (bu b) 0 0 k)) (nI 0) (by decide) (by decide)) ⟨va_cnB 3 hts gX0_beginAnew_X4_store_n58 rfl rfl rfl (q_nw hK 0 rfl) (hts (.initialized RX4) (by decide +kernel)) (by decide +kernel) ⟨Nat.le_of_ble_eq_true rfl, Nat.le_of_ble_eq_true rfl⟩, hts (.static yX4_store) (by decide +kernel), trivial⟩ hK hP hD hS hA [6] (by decide) rfl rfl hl.1 rfl (Nat.le_of_ble_eq_true rfl) dX0_beginAnew_22 (Nat.zero_le _) (Nat.zero_le _) (fun r w1 H locs hQ hP hD hS => ?_)
  obtain ⟨rfl, rfl⟩ := hQ
  rw [q_upd] at hP hD
  have hP : va_P C.1 vwCl ([(a 0, .inr (0, [.ref (a 1), .ref (a 2), .ref (a 3), .ref (a 4), .ref (a 5), .ref (a 6), .ref (a 7), .int (nI (bx b)), .int (nI (bl b) - 1), .long (br b), .long (lN (bw b)), .long (bz b)])), (a 1, .inl (C.2.1, 16, .inl (fun k => nI (bg b k)))), (a 2, .inl (C.2.1, 16, .inl (fun k => nI (bo b k)))), (a 3, .inl (C.2.1, 16, .inl (fun k => nI (bb b k)))), (a 4, .inl (C.2.1, 16, .inl (fun k => nI (bc b k)))), (a 5, .inl (C.2.1, 4, .inl (fun k => nI (upN (upN (bp b) 0 0) 1 0 k)))), (a 6, .inl (C.2.1, 4, .inl (fun k => nI (upN (upN (bu b) 0 0) 1 0 k)))), (a 7, .inl (C.2.1, 4, .inl (fun k => nI (bs b k))))]) H := hP
  have hD : va_D (q_A (wB C a b) s) ([(a 0, .inr (0, [.ref (a 1), .ref (a 2), .ref (a 3), .ref (a 4), .ref (a 5), .ref (a 6), .ref (a 7), .int (nI (bx b)), .int (nI (bl b) - 1), .long (br b), .long (lN (bw b)), .long (bz b)])), (a 1, .inl (C.2.1, 16, .inl (fun k => nI (bg b k)))), (a 2, .inl (C.2.1, 16, .inl (fun k => nI (bo b k)))), (a 3, .inl (C.2.1, 16, .inl (fun k => nI (bb b k)))), (a 4, .inl (C.2.1, 16, .inl (fun k => nI (bc b k)))), (a 5, .inl (C.2.1, 4, .inl (fun k => nI (upN (upN (bp b) 0 0) 1 0 k)))), (a 6, .inl (C.2.1, 4, .inl (fun k => nI (upN (upN (bu b) 0 0) 1 0 k)))), (a 7, .inl (C.2.1, 4, .inl (fun k => nI (bs b k))))]) := hD
  refine W.eq (g2 := F0 m 25 ls []) rfl ?_
  refine lv_iinc (v := nI 2) (lv' := [(3, .int (nI 2)), (0, .ref (a 0)), (1, .long x)]) hx hb dX0_beginAnew_25 hl (k := 0) rfl (by decide) (by decide) rfl (fun ls hl => ?_)
  refine lv_goto (tgt := 2) hx hb dX0_beginAnew_28 (by decide) ?_
  refine lv_iload_n hx hb dX0_beginAnew_2 rfl (lv_at hl 0 rfl) ?_
  refine lv_iconst (v := nI 4) hx hb dX0_beginAnew_3 (by decide) ?_
  refine lv_icmp_ge (tgt := 31) hx hb dX0_beginAnew_4 (by decide) (fun c => absurd c (by decide)) (fun _ => ?_)
  refine lv_aload_n hx hb dX0_beginAnew_7 rfl (lv_at hl 1 rfl) ?_
  refine va_get (ci := 0) (v := .ref (a 5)) (C := RX0) (T := TX0) (N := 12) hx hb hts hin0 hown hK.1 hP 0 rfl rfl 4 (by decide) hf24 (fun _ h9 => h9) rfl dX0_beginAnew_8 ?_
  refine lv_iload_n hx hb dX0_beginAnew_11 rfl (lv_at hl 0 rfl) ?_
  refine lv_iconst (v := nI 0) hx hb dX0_beginAnew_12 (by decide) ?_
  refine q_N (As := [.ref (a 5), .int (nI 2), .int (nI 0)]) (rest := []) ⟨hx, hb, hml, hown, hts⟩ (c_X4_store l C (a 5) 4 2 (fun k => nI (upN (upN (bp b) 0 0) 1 0 k)) (nI 0) (by decide) (by decide)) ⟨va_cnB 3 hts gX0_beginAnew_X4_store_n58 rfl rfl rfl (q_nw hK 0 rfl) (hts (.initialized RX4) (by decide +kernel)) (by decide +kernel) ⟨Nat.le_of_ble_eq_true rfl, Nat.le_of_ble_eq_true rfl⟩, hts (.static yX4_store) (by decide +kernel), trivial⟩ hK hP hD hS hA [5] (by decide) rfl rfl hl.1 rfl (Nat.le_of_ble_eq_true rfl) dX0_beginAnew_13 (Nat.zero_le _) (Nat.zero_le _) (fun r w1 H locs hQ hP hD hS => ?_)
  obtain ⟨rfl, rfl⟩ := hQ
  rw [q_upd] at hP hD
  have hP : va_P C.1 vwCl ([(a 0, .inr (0, [.ref (a 1), .ref (a 2), .ref (a 3), .ref (a 4), .ref (a 5), .ref (a 6), .ref (a 7), .int (nI (bx b)), .int (nI (bl b) - 1), .long (br b), .long (lN (bw b)), .long (bz b)])), (a 1, .inl (C.2.1, 16, .inl (fun k => nI (bg b k)))), (a 2, .inl (C.2.1, 16, .inl (fun k => nI (bo b k)))), (a 3, .inl (C.2.1, 16, .inl (fun k => nI (bb b k)))), (a 4, .inl (C.2.1, 16, .inl (fun k => nI (bc b k)))), (a 5, .inl (C.2.1, 4, .inl (fun k => nI (upN (upN (upN (bp b) 0 0) 1 0) 2 0 k)))), (a 6, .inl (C.2.1, 4, .inl (fun k => nI (upN (upN (bu b) 0 0) 1 0 k)))), (a 7, .inl (C.2.1, 4, .inl (fun k => nI (bs b k))))]) H := hP
  have hD : va_D (q_A (wB C a b) s) ([(a 0, .inr (0, [.ref (a 1), .ref (a 2), .ref (a 3), .ref (a 4), .ref (a 5), .ref (a 6), .ref (a 7), .int (nI (bx b)), .int (nI (bl b) - 1), .long (br b), .long (lN (bw b)), .long (bz b)])), (a 1, .inl (C.2.1, 16, .inl (fun k => nI (bg b k)))), (a 2, .inl (C.2.1, 16, .inl (fun k => nI (bo b k)))), (a 3, .inl (C.2.1, 16, .inl (fun k => nI (bb b k)))), (a 4, .inl (C.2.1, 16, .inl (fun k => nI (bc b k)))), (a 5, .inl (C.2.1, 4, .inl (fun k => nI (upN (upN (upN (bp b) 0 0) 1 0) 2 0 k)))), (a 6, .inl (C.2.1, 4, .inl (fun k => nI (upN (upN (bu b) 0 0) 1 0 k)))), (a 7, .inl (C.2.1, 4, .inl (fun k => nI (bs b k))))]) := hD
  refine W.eq (g2 := F0 m 16 ls []) rfl ?_
  refine lv_aload_n hx hb dX0_beginAnew_16 rfl (lv_at hl 1 rfl) ?_
  refine va_get (ci := 0) (v := .ref (a 6)) (C := RX0) (T := TX0) (N := 12) hx hb hts hin0 hown hK.1 hP 0 rfl rfl 5 (by decide) hf27 (fun _ h9 => h9) rfl dX0_beginAnew_17 ?_
  refine lv_iload_n hx hb dX0_beginAnew_20 rfl (lv_at hl 0 rfl) ?_
  refine lv_iconst (v := nI 0) hx hb dX0_beginAnew_21 (by decide) ?_
  refine q_N (As := [.ref (a 6), .int (nI 2), .int (nI 0)]) (rest := []) ⟨hx, hb, hml, hown, hts⟩ (c_X4_store l C (a 6) 4 2 (fun k => nI (upN (upN (bu b) 0 0) 1 0 k)) (nI 0) (by decide) (by decide)) ⟨va_cnB 3 hts gX0_beginAnew_X4_store_n58 rfl rfl rfl (q_nw hK 0 rfl) (hts (.initialized RX4) (by decide +kernel)) (by decide +kernel) ⟨Nat.le_of_ble_eq_true rfl, Nat.le_of_ble_eq_true rfl⟩, hts (.static yX4_store) (by decide +kernel), trivial⟩ hK hP hD hS hA [6] (by decide) rfl rfl hl.1 rfl (Nat.le_of_ble_eq_true rfl) dX0_beginAnew_22 (Nat.zero_le _) (Nat.zero_le _) (fun r w1 H locs hQ hP hD hS => ?_)
  obtain ⟨rfl, rfl⟩ := hQ
  rw [q_upd] at hP hD
  have hP : va_P C.1 vwCl ([(a 0, .inr (0, [.ref (a 1), .ref (a 2), .ref (a 3), .ref (a 4), .ref (a 5), .ref (a 6), .ref (a 7), .int (nI (bx b)), .int (nI (bl b) - 1), .long (br b), .long (lN (bw b)), .long (bz b)])), (a 1, .inl (C.2.1, 16, .inl (fun k => nI (bg b k)))), (a 2, .inl (C.2.1, 16, .inl (fun k => nI (bo b k)))), (a 3, .inl (C.2.1, 16, .inl (fun k => nI (bb b k)))), (a 4, .inl (C.2.1, 16, .inl (fun k => nI (bc b k)))), (a 5, .inl (C.2.1, 4, .inl (fun k => nI (upN (upN (upN (bp b) 0 0) 1 0) 2 0 k)))), (a 6, .inl (C.2.1, 4, .inl (fun k => nI (upN (upN (upN (bu b) 0 0) 1 0) 2 0 k)))), (a 7, .inl (C.2.1, 4, .inl (fun k => nI (bs b k))))]) H := hP
  have hD : va_D (q_A (wB C a b) s) ([(a 0, .inr (0, [.ref (a 1), .ref (a 2), .ref (a 3), .ref (a 4), .ref (a 5), .ref (a 6), .ref (a 7), .int (nI (bx b)), .int (nI (bl b) - 1), .long (br b), .long (lN (bw b)), .long (bz b)])), (a 1, .inl (C.2.1, 16, .inl (fun k => nI (bg b k)))), (a 2, .inl (C.2.1, 16, .inl (fun k => nI (bo b k)))), (a 3, .inl (C.2.1, 16, .inl (fun k => nI (bb b k)))), (a 4, .inl (C.2.1, 16, .inl (fun k => nI (bc b k)))), (a 5, .inl (C.2.1, 4, .inl (fun k => nI (upN (upN (upN (bp b) 0 0) 1 0) 2 0 k)))), (a 6, .inl (C.2.1, 4, .inl (fun k => nI (upN (upN (upN (bu b) 0 0) 1 0) 2 0 k)))), (a 7, .inl (C.2.1, 4, .inl (fun k => nI (bs b k))))]) := hD
  refine W.eq (g2 := F0 m 25 ls []) rfl ?_
  refine lv_iinc (v := nI 3) (lv' := [(3, .int (nI 3)), (0, .ref (a 0)), (1, .long x)]) hx hb dX0_beginAnew_25 hl (k := 0) rfl (by decide) (by decide) rfl (fun ls hl => ?_)
  refine lv_goto (tgt := 2) hx hb dX0_beginAnew_28 (by decide) ?_
  refine lv_iload_n hx hb dX0_beginAnew_2 rfl (lv_at hl 0 rfl) ?_
  refine lv_iconst (v := nI 4) hx hb dX0_beginAnew_3 (by decide) ?_
  refine lv_icmp_ge (tgt := 31) hx hb dX0_beginAnew_4 (by decide) (fun c => absurd c (by decide)) (fun _ => ?_)
  refine lv_aload_n hx hb dX0_beginAnew_7 rfl (lv_at hl 1 rfl) ?_
  refine va_get (ci := 0) (v := .ref (a 5)) (C := RX0) (T := TX0) (N := 12) hx hb hts hin0 hown hK.1 hP 0 rfl rfl 4 (by decide) hf24 (fun _ h9 => h9) rfl dX0_beginAnew_8 ?_
  refine lv_iload_n hx hb dX0_beginAnew_11 rfl (lv_at hl 0 rfl) ?_
  refine lv_iconst (v := nI 0) hx hb dX0_beginAnew_12 (by decide) ?_
  refine q_N (As := [.ref (a 5), .int (nI 3), .int (nI 0)]) (rest := []) ⟨hx, hb, hml, hown, hts⟩ (c_X4_store l C (a 5) 4 3 (fun k => nI (upN (upN (upN (bp b) 0 0) 1 0) 2 0 k)) (nI 0) (by decide) (by decide)) ⟨va_cnB 3 hts gX0_beginAnew_X4_store_n58 rfl rfl rfl (q_nw hK 0 rfl) (hts (.initialized RX4) (by decide +kernel)) (by decide +kernel) ⟨Nat.le_of_ble_eq_true rfl, Nat.le_of_ble_eq_true rfl⟩, hts (.static yX4_store) (by decide +kernel), trivial⟩ hK hP hD hS hA [5] (by decide) rfl rfl hl.1 rfl (Nat.le_of_ble_eq_true rfl) dX0_beginAnew_13 (Nat.zero_le _) (Nat.zero_le _) (fun r w1 H locs hQ hP hD hS => ?_)
  obtain ⟨rfl, rfl⟩ := hQ
  rw [q_upd] at hP hD
  have hP : va_P C.1 vwCl ([(a 0, .inr (0, [.ref (a 1), .ref (a 2), .ref (a 3), .ref (a 4), .ref (a 5), .ref (a 6), .ref (a 7), .int (nI (bx b)), .int (nI (bl b) - 1), .long (br b), .long (lN (bw b)), .long (bz b)])), (a 1, .inl (C.2.1, 16, .inl (fun k => nI (bg b k)))), (a 2, .inl (C.2.1, 16, .inl (fun k => nI (bo b k)))), (a 3, .inl (C.2.1, 16, .inl (fun k => nI (bb b k)))), (a 4, .inl (C.2.1, 16, .inl (fun k => nI (bc b k)))), (a 5, .inl (C.2.1, 4, .inl (fun k => nI (upN (upN (upN (upN (bp b) 0 0) 1 0) 2 0) 3 0 k)))), (a 6, .inl (C.2.1, 4, .inl (fun k => nI (upN (upN (upN (bu b) 0 0) 1 0) 2 0 k)))), (a 7, .inl (C.2.1, 4, .inl (fun k => nI (bs b k))))]) H := hP
  have hD : va_D (q_A (wB C a b) s) ([(a 0, .inr (0, [.ref (a 1), .ref (a 2), .ref (a 3), .ref (a 4), .ref (a 5), .ref (a 6), .ref (a 7), .int (nI (bx b)), .int (nI (bl b) - 1), .long (br b), .long (lN (bw b)), .long (bz b)])), (a 1, .inl (C.2.1, 16, .inl (fun k => nI (bg b k)))), (a 2, .inl (C.2.1, 16, .inl (fun k => nI (bo b k)))), (a 3, .inl (C.2.1, 16, .inl (fun k => nI (bb b k)))), (a 4, .inl (C.2.1, 16, .inl (fun k => nI (bc b k)))), (a 5, .inl (C.2.1, 4, .inl (fun k => nI (upN (upN (upN (upN (bp b) 0 0) 1 0) 2 0) 3 0 k)))), (a 6, .inl (C.2.1, 4, .inl (fun k => nI (upN (upN (upN (bu b) 0 0) 1 0) 2 0 k)))), (a 7, .inl (C.2.1, 4, .inl (fun k => nI (bs b k))))]) := hD
  refine W.eq (g2 := F0 m 16 ls []) rfl ?_
  refine lv_aload_n hx hb dX0_beginAnew_16 rfl (lv_at hl 1 rfl) ?_
  refine va_get (ci := 0) (v := .ref (a 6)) (C := RX0) (T := TX0) (N := 12) hx hb hts hin0 hown hK.1 hP 0 rfl rfl 5 (by decide) hf27 (fun _ h9 => h9) rfl dX0_beginAnew_17 ?_
  refine lv_iload_n hx hb dX0_beginAnew_20 rfl (lv_at hl 0 rfl) ?_
  refine lv_iconst (v := nI 0) hx hb dX0_beginAnew_21 (by decide) ?_
  refine q_N (As := [.ref (a 6), .int (nI 3), .int (nI 0)]) (rest := []) ⟨hx, hb, hml, hown, hts⟩ (c_X4_store l C (a 6) 4 3 (fun k => nI (upN (upN (upN (bu b) 0 0) 1 0) 2 0 k)) (nI 0) (by decide) (by decide)) ⟨va_cnB 3 hts gX0_beginAnew_X4_store_n58 rfl rfl rfl (q_nw hK 0 rfl) (hts (.initialized RX4) (by decide +kernel)) (by decide +kernel) ⟨Nat.le_of_ble_eq_true rfl, Nat.le_of_ble_eq_true rfl⟩, hts (.static yX4_store) (by decide +kernel), trivial⟩ hK hP hD hS hA [6] (by decide) rfl rfl hl.1 rfl (Nat.le_of_ble_eq_true rfl) dX0_beginAnew_22 (Nat.zero_le _) (Nat.zero_le _) (fun r w1 H locs hQ hP hD hS => ?_)
  obtain ⟨rfl, rfl⟩ := hQ
  rw [q_upd] at hP hD
  have hP : va_P C.1 vwCl ([(a 0, .inr (0, [.ref (a 1), .ref (a 2), .ref (a 3), .ref (a 4), .ref (a 5), .ref (a 6), .ref (a 7), .int (nI (bx b)), .int (nI (bl b) - 1), .long (br b), .long (lN (bw b)), .long (bz b)])), (a 1, .inl (C.2.1, 16, .inl (fun k => nI (bg b k)))), (a 2, .inl (C.2.1, 16, .inl (fun k => nI (bo b k)))), (a 3, .inl (C.2.1, 16, .inl (fun k => nI (bb b k)))), (a 4, .inl (C.2.1, 16, .inl (fun k => nI (bc b k)))), (a 5, .inl (C.2.1, 4, .inl (fun k => nI (upN (upN (upN (upN (bp b) 0 0) 1 0) 2 0) 3 0 k)))), (a 6, .inl (C.2.1, 4, .inl (fun k => nI (upN (upN (upN (upN (bu b) 0 0) 1 0) 2 0) 3 0 k)))), (a 7, .inl (C.2.1, 4, .inl (fun k => nI (bs b k))))]) H := hP
  have hD : va_D (q_A (wB C a b) s) ([(a 0, .inr (0, [.ref (a 1), .ref (a 2), .ref (a 3), .ref (a 4), .ref (a 5), .ref (a 6), .ref (a 7), .int (nI (bx b)), .int (nI (bl b) - 1), .long (br b), .long (lN (bw b)), .long (bz b)])), (a 1, .inl (C.2.1, 16, .inl (fun k => nI (bg b k)))), (a 2, .inl (C.2.1, 16, .inl (fun k => nI (bo b k)))), (a 3, .inl (C.2.1, 16, .inl (fun k => nI (bb b k)))), (a 4, .inl (C.2.1, 16, .inl (fun k => nI (bc b k)))), (a 5, .inl (C.2.1, 4, .inl (fun k => nI (upN (upN (upN (upN (bp b) 0 0) 1 0) 2 0) 3 0 k)))), (a 6, .inl (C.2.1, 4, .inl (fun k => nI (upN (upN (upN (upN (bu b) 0 0) 1 0) 2 0) 3 0 k)))), (a 7, .inl (C.2.1, 4, .inl (fun k => nI (bs b k))))]) := hD
  refine W.eq (g2 := F0 m 25 ls []) rfl ?_
  refine lv_iinc (v := nI 4) (lv' := [(3, .int (nI 4)), (0, .ref (a 0)), (1, .long x)]) hx hb dX0_beginAnew_25 hl (k := 0) rfl (by decide) (by decide) rfl (fun ls hl => ?_)
  refine lv_goto (tgt := 2) hx hb dX0_beginAnew_28 (by decide) ?_
  refine lv_iload_n hx hb dX0_beginAnew_2 rfl (lv_at hl 0 rfl) ?_
  refine lv_iconst (v := nI 4) hx hb dX0_beginAnew_3 (by decide) ?_
  refine lv_icmp_ge (tgt := 31) hx hb dX0_beginAnew_4 (by decide) (fun _ => ?_) (fun c => absurd (by decide) c)
  refine lv_aload_n hx hb dX0_beginAnew_31 rfl (lv_at hl 1 rfl) ?_
  refine lv_iconst (v := nI 0) hx hb dX0_beginAnew_32 (by decide) ?_
  refine va_put (ci := 0) (v := .int (nI 0)) (ty := .int) (C := RX0) (T := TX0) (N := 12) hx hb hts hin0 tyX0 tyX0_ok nmX0 hown hK.1 hP hD hS 0 rfl rfl 7 (by decide) hf52 (fun _ h9 => h9) rfl (by decide +kernel) rfl rfl (Nat.le_of_ble_eq_true rfl) dX0_beginAnew_33 (fun H locs hP hD hS => ?_)
  have hP : va_P C.1 vwCl ([(a 0, .inr (0, [.ref (a 1), .ref (a 2), .ref (a 3), .ref (a 4), .ref (a 5), .ref (a 6), .ref (a 7), .int (nI 0), .int (nI (bl b) - 1), .long (br b), .long (lN (bw b)), .long (bz b)])), (a 1, .inl (C.2.1, 16, .inl (fun k => nI (bg b k)))), (a 2, .inl (C.2.1, 16, .inl (fun k => nI (bo b k)))), (a 3, .inl (C.2.1, 16, .inl (fun k => nI (bb b k)))), (a 4, .inl (C.2.1, 16, .inl (fun k => nI (bc b k)))), (a 5, .inl (C.2.1, 4, .inl (fun k => nI (upN (upN (upN (upN (bp b) 0 0) 1 0) 2 0) 3 0 k)))), (a 6, .inl (C.2.1, 4, .inl (fun k => nI (upN (upN (upN (upN (bu b) 0 0) 1 0) 2 0) 3 0 k)))), (a 7, .inl (C.2.1, 4, .inl (fun k => nI (bs b k))))]) H := hP
  have hD : va_D (q_A (wB C a b) s) ([(a 0, .inr (0, [.ref (a 1), .ref (a 2), .ref (a 3), .ref (a 4), .ref (a 5), .ref (a 6), .ref (a 7), .int (nI 0), .int (nI (bl b) - 1), .long (br b), .long (lN (bw b)), .long (bz b)])), (a 1, .inl (C.2.1, 16, .inl (fun k => nI (bg b k)))), (a 2, .inl (C.2.1, 16, .inl (fun k => nI (bo b k)))), (a 3, .inl (C.2.1, 16, .inl (fun k => nI (bb b k)))), (a 4, .inl (C.2.1, 16, .inl (fun k => nI (bc b k)))), (a 5, .inl (C.2.1, 4, .inl (fun k => nI (upN (upN (upN (upN (bp b) 0 0) 1 0) 2 0) 3 0 k)))), (a 6, .inl (C.2.1, 4, .inl (fun k => nI (upN (upN (upN (upN (bu b) 0 0) 1 0) 2 0) 3 0 k)))), (a 7, .inl (C.2.1, 4, .inl (fun k => nI (bs b k))))]) := hD
  refine lv_aload_n hx hb dX0_beginAnew_36 rfl (lv_at hl 1 rfl) ?_
  refine lv_iconst (v := (-1)) hx hb dX0_beginAnew_37 (by decide) ?_
  refine va_put (ci := 0) (v := .int (-1)) (ty := .int) (C := RX0) (T := TX0) (N := 12) hx hb hts hin0 tyX0 tyX0_ok nmX0 hown hK.1 hP hD hS 0 rfl rfl 8 (by decide) hf33 (fun _ h9 => h9) rfl (by decide +kernel) rfl rfl (Nat.le_of_ble_eq_true rfl) dX0_beginAnew_38 (fun H locs hP hD hS => ?_)
  have hP : va_P C.1 vwCl ([(a 0, .inr (0, [.ref (a 1), .ref (a 2), .ref (a 3), .ref (a 4), .ref (a 5), .ref (a 6), .ref (a 7), .int (nI 0), .int (-1), .long (br b), .long (lN (bw b)), .long (bz b)])), (a 1, .inl (C.2.1, 16, .inl (fun k => nI (bg b k)))), (a 2, .inl (C.2.1, 16, .inl (fun k => nI (bo b k)))), (a 3, .inl (C.2.1, 16, .inl (fun k => nI (bb b k)))), (a 4, .inl (C.2.1, 16, .inl (fun k => nI (bc b k)))), (a 5, .inl (C.2.1, 4, .inl (fun k => nI (upN (upN (upN (upN (bp b) 0 0) 1 0) 2 0) 3 0 k)))), (a 6, .inl (C.2.1, 4, .inl (fun k => nI (upN (upN (upN (upN (bu b) 0 0) 1 0) 2 0) 3 0 k)))), (a 7, .inl (C.2.1, 4, .inl (fun k => nI (bs b k))))]) H := hP
  have hD : va_D (q_A (wB C a b) s) ([(a 0, .inr (0, [.ref (a 1), .ref (a 2), .ref (a 3), .ref (a 4), .ref (a 5), .ref (a 6), .ref (a 7), .int (nI 0), .int (-1), .long (br b), .long (lN (bw b)), .long (bz b)])), (a 1, .inl (C.2.1, 16, .inl (fun k => nI (bg b k)))), (a 2, .inl (C.2.1, 16, .inl (fun k => nI (bo b k)))), (a 3, .inl (C.2.1, 16, .inl (fun k => nI (bb b k)))), (a 4, .inl (C.2.1, 16, .inl (fun k => nI (bc b k)))), (a 5, .inl (C.2.1, 4, .inl (fun k => nI (upN (upN (upN (upN (bp b) 0 0) 1 0) 2 0) 3 0 k)))), (a 6, .inl (C.2.1, 4, .inl (fun k => nI (upN (upN (upN (upN (bu b) 0 0) 1 0) 2 0) 3 0 k)))), (a 7, .inl (C.2.1, 4, .inl (fun k => nI (bs b k))))]) := hD
  refine lv_aload_n hx hb dX0_beginAnew_41 rfl (lv_at hl 1 rfl) ?_
  refine lv_lconst (v := lN 0) hx hb dX0_beginAnew_42 (by decide) ?_
  refine va_put (ci := 0) (v := .long (lN 0)) (ty := .long) (C := RX0) (T := TX0) (N := 12) hx hb hts hin0 tyX0 tyX0_ok nmX0 hown hK.1 hP hD hS 0 rfl rfl 9 (by decide) hf55 (fun _ h9 => h9) rfl (by decide +kernel) rfl rfl (Nat.le_of_ble_eq_true rfl) dX0_beginAnew_43 (fun H locs hP hD hS => ?_)
  have hP : va_P C.1 vwCl ([(a 0, .inr (0, [.ref (a 1), .ref (a 2), .ref (a 3), .ref (a 4), .ref (a 5), .ref (a 6), .ref (a 7), .int (nI 0), .int (-1), .long (lN 0), .long (lN (bw b)), .long (bz b)])), (a 1, .inl (C.2.1, 16, .inl (fun k => nI (bg b k)))), (a 2, .inl (C.2.1, 16, .inl (fun k => nI (bo b k)))), (a 3, .inl (C.2.1, 16, .inl (fun k => nI (bb b k)))), (a 4, .inl (C.2.1, 16, .inl (fun k => nI (bc b k)))), (a 5, .inl (C.2.1, 4, .inl (fun k => nI (upN (upN (upN (upN (bp b) 0 0) 1 0) 2 0) 3 0 k)))), (a 6, .inl (C.2.1, 4, .inl (fun k => nI (upN (upN (upN (upN (bu b) 0 0) 1 0) 2 0) 3 0 k)))), (a 7, .inl (C.2.1, 4, .inl (fun k => nI (bs b k))))]) H := hP
  have hD : va_D (q_A (wB C a b) s) ([(a 0, .inr (0, [.ref (a 1), .ref (a 2), .ref (a 3), .ref (a 4), .ref (a 5), .ref (a 6), .ref (a 7), .int (nI 0), .int (-1), .long (lN 0), .long (lN (bw b)), .long (bz b)])), (a 1, .inl (C.2.1, 16, .inl (fun k => nI (bg b k)))), (a 2, .inl (C.2.1, 16, .inl (fun k => nI (bo b k)))), (a 3, .inl (C.2.1, 16, .inl (fun k => nI (bb b k)))), (a 4, .inl (C.2.1, 16, .inl (fun k => nI (bc b k)))), (a 5, .inl (C.2.1, 4, .inl (fun k => nI (upN (upN (upN (upN (bp b) 0 0) 1 0) 2 0) 3 0 k)))), (a 6, .inl (C.2.1, 4, .inl (fun k => nI (upN (upN (upN (upN (bu b) 0 0) 1 0) 2 0) 3 0 k)))), (a 7, .inl (C.2.1, 4, .inl (fun k => nI (bs b k))))]) := hD
  refine lv_aload_n hx hb dX0_beginAnew_46 rfl (lv_at hl 1 rfl) ?_
  refine lv_ldc2 hx hb hown hk37 dX0_beginAnew_47 ?_
  refine q_tl (y := lN 1000000) (by decide) ?_
  refine va_put (ci := 0) (v := .long (lN 1000000)) (ty := .long) (C := RX0) (T := TX0) (N := 12) hx hb hts hin0 tyX0 tyX0_ok nmX0 hown hK.1 hP hD hS 0 rfl rfl 10 (by decide) hf39 (fun _ h9 => h9) rfl (by decide +kernel) rfl rfl (Nat.le_of_ble_eq_true rfl) dX0_beginAnew_50 (fun H locs hP hD hS => ?_)
  have hP : va_P C.1 vwCl ([(a 0, .inr (0, [.ref (a 1), .ref (a 2), .ref (a 3), .ref (a 4), .ref (a 5), .ref (a 6), .ref (a 7), .int (nI 0), .int (-1), .long (lN 0), .long (lN 1000000), .long (bz b)])), (a 1, .inl (C.2.1, 16, .inl (fun k => nI (bg b k)))), (a 2, .inl (C.2.1, 16, .inl (fun k => nI (bo b k)))), (a 3, .inl (C.2.1, 16, .inl (fun k => nI (bb b k)))), (a 4, .inl (C.2.1, 16, .inl (fun k => nI (bc b k)))), (a 5, .inl (C.2.1, 4, .inl (fun k => nI (upN (upN (upN (upN (bp b) 0 0) 1 0) 2 0) 3 0 k)))), (a 6, .inl (C.2.1, 4, .inl (fun k => nI (upN (upN (upN (upN (bu b) 0 0) 1 0) 2 0) 3 0 k)))), (a 7, .inl (C.2.1, 4, .inl (fun k => nI (bs b k))))]) H := hP
  have hD : va_D (q_A (wB C a b) s) ([(a 0, .inr (0, [.ref (a 1), .ref (a 2), .ref (a 3), .ref (a 4), .ref (a 5), .ref (a 6), .ref (a 7), .int (nI 0), .int (-1), .long (lN 0), .long (lN 1000000), .long (bz b)])), (a 1, .inl (C.2.1, 16, .inl (fun k => nI (bg b k)))), (a 2, .inl (C.2.1, 16, .inl (fun k => nI (bo b k)))), (a 3, .inl (C.2.1, 16, .inl (fun k => nI (bb b k)))), (a 4, .inl (C.2.1, 16, .inl (fun k => nI (bc b k)))), (a 5, .inl (C.2.1, 4, .inl (fun k => nI (upN (upN (upN (upN (bp b) 0 0) 1 0) 2 0) 3 0 k)))), (a 6, .inl (C.2.1, 4, .inl (fun k => nI (upN (upN (upN (upN (bu b) 0 0) 1 0) 2 0) 3 0 k)))), (a 7, .inl (C.2.1, 4, .inl (fun k => nI (bs b k))))]) := hD
  refine lv_aload_n hx hb dX0_beginAnew_53 rfl (lv_at hl 1 rfl) ?_
  refine lv_lload_n hx hb dX0_beginAnew_54 rfl (lv_at hl 2 rfl) ?_
  refine va_put (ci := 0) (v := .long x) (ty := .long) (C := RX0) (T := TX0) (N := 12) hx hb hts hin0 tyX0 tyX0_ok nmX0 hown hK.1 hP hD hS 0 rfl rfl 11 (by decide) hf43 (fun _ h9 => h9) rfl (by decide +kernel) rfl rfl (Nat.le_of_ble_eq_true rfl) dX0_beginAnew_55 (fun H locs hP hD hS => ?_)
  have hP : va_P C.1 vwCl ([(a 0, .inr (0, [.ref (a 1), .ref (a 2), .ref (a 3), .ref (a 4), .ref (a 5), .ref (a 6), .ref (a 7), .int (nI 0), .int (-1), .long (lN 0), .long (lN 1000000), .long x])), (a 1, .inl (C.2.1, 16, .inl (fun k => nI (bg b k)))), (a 2, .inl (C.2.1, 16, .inl (fun k => nI (bo b k)))), (a 3, .inl (C.2.1, 16, .inl (fun k => nI (bb b k)))), (a 4, .inl (C.2.1, 16, .inl (fun k => nI (bc b k)))), (a 5, .inl (C.2.1, 4, .inl (fun k => nI (upN (upN (upN (upN (bp b) 0 0) 1 0) 2 0) 3 0 k)))), (a 6, .inl (C.2.1, 4, .inl (fun k => nI (upN (upN (upN (upN (bu b) 0 0) 1 0) 2 0) 3 0 k)))), (a 7, .inl (C.2.1, 4, .inl (fun k => nI (bs b k))))]) H := hP
  have hD : va_D (q_A (wB C a b) s) ([(a 0, .inr (0, [.ref (a 1), .ref (a 2), .ref (a 3), .ref (a 4), .ref (a 5), .ref (a 6), .ref (a 7), .int (nI 0), .int (-1), .long (lN 0), .long (lN 1000000), .long x])), (a 1, .inl (C.2.1, 16, .inl (fun k => nI (bg b k)))), (a 2, .inl (C.2.1, 16, .inl (fun k => nI (bo b k)))), (a 3, .inl (C.2.1, 16, .inl (fun k => nI (bb b k)))), (a 4, .inl (C.2.1, 16, .inl (fun k => nI (bc b k)))), (a 5, .inl (C.2.1, 4, .inl (fun k => nI (upN (upN (upN (upN (bp b) 0 0) 1 0) 2 0) 3 0 k)))), (a 6, .inl (C.2.1, 4, .inl (fun k => nI (upN (upN (upN (upN (bu b) 0 0) 1 0) 2 0) 3 0 k)))), (a 7, .inl (C.2.1, 4, .inl (fun k => nI (bs b k))))]) := hD
  exact q_vret hx hb hr hlocks (w1 := [(a 0, .inr (0, [.ref (a 1), .ref (a 2), .ref (a 3), .ref (a 4), .ref (a 5), .ref (a 6), .ref (a 7), .int (nI 0), .int (-1), .long (lN 0), .long (lN 1000000), .long x])), (a 1, .inl (C.2.1, 16, .inl (fun k => nI (bg b k)))), (a 2, .inl (C.2.1, 16, .inl (fun k => nI (bo b k)))), (a 3, .inl (C.2.1, 16, .inl (fun k => nI (bb b k)))), (a 4, .inl (C.2.1, 16, .inl (fun k => nI (bc b k)))), (a 5, .inl (C.2.1, 4, .inl (fun k => nI (upN (upN (upN (upN (bp b) 0 0) 1 0) 2 0) 3 0 k)))), (a 6, .inl (C.2.1, 4, .inl (fun k => nI (upN (upN (upN (upN (bu b) 0 0) 1 0) 2 0) 3 0 k)))), (a 7, .inl (C.2.1, 4, .inl (fun k => nI (bs b k))))]) hP hS rfl dX0_beginAnew_58 (⟨rfl, rfl⟩)
set_option maxHeartbeats 4000000 in
set_option maxRecDepth 100000 in
theorem c_X0_goOn (l : Launch) (C : q_C) (a : Nat → Nat) (b : Bd) (arm : Nat) (hB : OkB b) (ha : arm < 4) : q_M C l yX0_goOn wsX0_goOn 1 22 [.ref (a 0), .int (nI arm)] (wB C a b) (fun r w => r = none ∧ w = wB C a (goB b arm)) := by
  obtain ⟨ok1, ok2, ⟨ok3, ok4, ok5, ok6, ok7⟩, ok8, ok9⟩ := id hB
  have hp4 := ok2 arm ha
  have h16 := ok1 (4 * arm + bp b arm) (by omega)
  have hdr := drawn_lt (bz b)
  refine q_head (cc := cX0_goOn) (maxL := 4) (ret := none) (by decide +kernel) rfl (Nat.le_of_ble_eq_true rfl) ?_
  intro p e s m below meth c hx hb hr hlocks hml hown hts hK hP hD hS hA ls hl
  have hl : lv_has ls 4 [(0, .ref (a 0)), (1, .int (nI arm))] := hl
  have hf15 := hts (.fieldLink RX0 15 "RestedArms$Board" "goods" "[I") (by decide +kernel)
  have hf18 := hts (.fieldLink RX0 18 "RestedArms$Board" "bads" "[I") (by decide +kernel)
  have hf21 := hts (.fieldLink RX0 21 "RestedArms$Board" "chances" "[I") (by decide +kernel)
  have hf24 := hts (.fieldLink RX0 24 "RestedArms$Board" "places" "[I") (by decide +kernel)
  have hf43 := hts (.fieldLink RX0 43 "RestedArms$Board" "row" "J") (by decide +kernel)
  have hin0 : ∀ w ∈ u_ws RX0 TX0 12, w ∈ wsX0_goOn := by decide +kernel
  have hk90 := hts (.constantLong RX0 90 (6364136223846793005)) (by decide +kernel)
  have hk92 := hts (.constantLong RX0 92 (1442695040888963407)) (by decide +kernel)
  refine lv_aload_n hx hb dX0_goOn_0 rfl (lv_at hl 0 rfl) ?_
  refine lv_aload_n hx hb dX0_goOn_1 rfl (lv_at hl 0 rfl) ?_
  refine va_get (ci := 0) (v := .long (bz b)) (C := RX0) (T := TX0) (N := 12) hx hb hts hin0 hown hK.1 hP 0 rfl rfl 11 (by decide) hf43 (fun _ h9 => h9) rfl dX0_goOn_2 ?_
  refine lv_ldc2 hx hb hown hk90 dX0_goOn_5 ?_
  refine lv_lmul hx hb dX0_goOn_8 ?_
  refine lv_ldc2 hx hb hown hk92 dX0_goOn_9 ?_
  refine lv_ladd hx hb dX0_goOn_12 ?_
  refine q_tl (y := nextX (bz b)) (nextX_eq _).symm ?_
  refine va_put (ci := 0) (v := .long (nextX (bz b))) (ty := .long) (C := RX0) (T := TX0) (N := 12) hx hb hts hin0 tyX0 tyX0_ok nmX0 hown hK.1 hP hD hS 0 rfl rfl 11 (by decide) hf43 (fun _ h9 => h9) rfl (by decide +kernel) rfl rfl (Nat.le_of_ble_eq_true rfl) dX0_goOn_13 (fun H locs hP hD hS => ?_)
  have hP : va_P C.1 vwCl ([(a 0, .inr (0, [.ref (a 1), .ref (a 2), .ref (a 3), .ref (a 4), .ref (a 5), .ref (a 6), .ref (a 7), .int (nI (bx b)), .int (nI (bl b) - 1), .long (br b), .long (lN (bw b)), .long (nextX (bz b))])), (a 1, .inl (C.2.1, 16, .inl (fun k => nI (bg b k)))), (a 2, .inl (C.2.1, 16, .inl (fun k => nI (bo b k)))), (a 3, .inl (C.2.1, 16, .inl (fun k => nI (bb b k)))), (a 4, .inl (C.2.1, 16, .inl (fun k => nI (bc b k)))), (a 5, .inl (C.2.1, 4, .inl (fun k => nI (bp b k)))), (a 6, .inl (C.2.1, 4, .inl (fun k => nI (bu b k)))), (a 7, .inl (C.2.1, 4, .inl (fun k => nI (bs b k))))]) H := hP
  have hD : va_D (q_A (wB C a b) s) ([(a 0, .inr (0, [.ref (a 1), .ref (a 2), .ref (a 3), .ref (a 4), .ref (a 5), .ref (a 6), .ref (a 7), .int (nI (bx b)), .int (nI (bl b) - 1), .long (br b), .long (lN (bw b)), .long (nextX (bz b))])), (a 1, .inl (C.2.1, 16, .inl (fun k => nI (bg b k)))), (a 2, .inl (C.2.1, 16, .inl (fun k => nI (bo b k)))), (a 3, .inl (C.2.1, 16, .inl (fun k => nI (bb b k)))), (a 4, .inl (C.2.1, 16, .inl (fun k => nI (bc b k)))), (a 5, .inl (C.2.1, 4, .inl (fun k => nI (bp b k)))), (a 6, .inl (C.2.1, 4, .inl (fun k => nI (bu b k)))), (a 7, .inl (C.2.1, 4, .inl (fun k => nI (bs b k))))]) := hD
  refine lv_aload_n hx hb dX0_goOn_16 rfl (lv_at hl 0 rfl) ?_
  refine va_get (ci := 0) (v := .long (nextX (bz b))) (C := RX0) (T := TX0) (N := 12) hx hb hts hin0 hown hK.1 hP 0 rfl rfl 11 (by decide) hf43 (fun _ h9 => h9) rfl dX0_goOn_17 ?_
  refine lv_bipush (v := nI 61) hx hb dX0_goOn_20 (by decide) ?_
  refine lv_lushr (v := ((nextX (bz b)).toUInt64 >>> ((nI 61).toInt64.toUInt64 &&& Int64.toUInt64 63)).toInt64) hx hb dX0_goOn_22 rfl ?_
  refine lv_l2i (v := (((nextX (bz b)).toUInt64 >>> ((nI 61).toInt64.toUInt64 &&& Int64.toUInt64 63)).toInt64).toInt32) hx hb dX0_goOn_23 rfl ?_
  refine q_ti (y := nI (drawn (bz b))) (q_drawn _) ?_
  refine lv_istore_n (lv' := [(2, .int (nI (drawn (bz b)))), (0, .ref (a 0)), (1, .int (nI arm))]) hx hb dX0_goOn_24 rfl hl (by decide) rfl (fun ls hl => ?_)
  refine lv_iload_n hx hb dX0_goOn_25 rfl (lv_at hl 2 rfl) ?_
  refine lv_aload_n hx hb dX0_goOn_26 rfl (lv_at hl 1 rfl) ?_
  refine va_get (ci := 0) (v := .ref (a 5)) (C := RX0) (T := TX0) (N := 12) hx hb hts hin0 hown hK.1 hP 0 rfl rfl 4 (by decide) hf24 (fun _ h9 => h9) rfl dX0_goOn_27 ?_
  refine lv_iload_n hx hb dX0_goOn_30 rfl (lv_at hl 2 rfl) ?_
  refine q_N (As := [.ref (a 5), .int (nI arm)]) (rest := [.int (nI arm)]) ⟨hx, hb, hml, hown, hts⟩ (c_X4_at l C (a 5) 4 arm (fun k => nI (bp b k)) (by omega) (by decide)) ⟨va_cnB 2 hts gX0_goOn_X4_at_n62 rfl rfl rfl (q_nw hK 1 rfl) (hts (.initialized RX4) (by decide +kernel)) (by decide +kernel) ⟨Nat.le_of_ble_eq_true rfl, Nat.le_of_ble_eq_true rfl⟩, hts (.static yX4_at) (by decide +kernel), trivial⟩ hK hP hD hS hA [5] (by decide) rfl rfl hl.1 rfl (Nat.le_of_ble_eq_true rfl) dX0_goOn_31 (Nat.zero_le _) (Nat.zero_le _) (fun r w1 H locs hQ hP hD hS => ?_)
  obtain ⟨rfl, rfl⟩ := hQ
  have hP : va_P C.1 vwCl ([(a 0, .inr (0, [.ref (a 1), .ref (a 2), .ref (a 3), .ref (a 4), .ref (a 5), .ref (a 6), .ref (a 7), .int (nI (bx b)), .int (nI (bl b) - 1), .long (br b), .long (lN (bw b)), .long (nextX (bz b))])), (a 1, .inl (C.2.1, 16, .inl (fun k => nI (bg b k)))), (a 2, .inl (C.2.1, 16, .inl (fun k => nI (bo b k)))), (a 3, .inl (C.2.1, 16, .inl (fun k => nI (bb b k)))), (a 4, .inl (C.2.1, 16, .inl (fun k => nI (bc b k)))), (a 5, .inl (C.2.1, 4, .inl (fun k => nI (bp b k)))), (a 6, .inl (C.2.1, 4, .inl (fun k => nI (bu b k)))), (a 7, .inl (C.2.1, 4, .inl (fun k => nI (bs b k))))]) H := hP
  have hD : va_D (q_A (wB C a b) s) ([(a 0, .inr (0, [.ref (a 1), .ref (a 2), .ref (a 3), .ref (a 4), .ref (a 5), .ref (a 6), .ref (a 7), .int (nI (bx b)), .int (nI (bl b) - 1), .long (br b), .long (lN (bw b)), .long (nextX (bz b))])), (a 1, .inl (C.2.1, 16, .inl (fun k => nI (bg b k)))), (a 2, .inl (C.2.1, 16, .inl (fun k => nI (bo b k)))), (a 3, .inl (C.2.1, 16, .inl (fun k => nI (bb b k)))), (a 4, .inl (C.2.1, 16, .inl (fun k => nI (bc b k)))), (a 5, .inl (C.2.1, 4, .inl (fun k => nI (bp b k)))), (a 6, .inl (C.2.1, 4, .inl (fun k => nI (bu b k)))), (a 7, .inl (C.2.1, 4, .inl (fun k => nI (bs b k))))]) := hD
  refine W.eq (g2 := F0 m 34 ls [.int (nI (bp b arm)), .int (nI arm)]) rfl ?_
  refine q_N (As := [.int (nI arm), .int (nI (bp b arm))]) (rest := []) ⟨hx, hb, hml, hown, hts⟩ (c_X4_slotOf l C arm (bp b arm)) ⟨va_cnB 2 hts gX0_goOn_X4_slotOf_n74 rfl rfl rfl (q_nw hK 2 rfl) (hts (.initialized RX4) (by decide +kernel)) (by decide +kernel) ⟨Nat.le_of_ble_eq_true rfl, Nat.le_of_ble_eq_true rfl⟩, hts (.static yX4_slotOf) (by decide +kernel), trivial⟩ hK hP hD hS hA [] (by decide) rfl rfl hl.1 rfl (Nat.le_of_ble_eq_true rfl) dX0_goOn_34 (Nat.zero_le _) (Nat.zero_le _) (fun r w1 H locs hQ hP hD hS => ?_)
  obtain ⟨rfl, rfl⟩ := hQ
  refine W.eq (g2 := F0 m 37 ls [.int (nI (4 * arm + (bp b arm)))]) rfl ?_
  refine lv_istore_n (lv' := [(3, .int (nI (4 * arm + (bp b arm)))), (2, .int (nI (drawn (bz b)))), (0, .ref (a 0)), (1, .int (nI arm))]) hx hb dX0_goOn_37 rfl hl (by decide) rfl (fun ls hl => ?_)
  refine lv_aload_n hx hb dX0_goOn_38 rfl (lv_at hl 2 rfl) ?_
  refine va_get (ci := 0) (v := .ref (a 5)) (C := RX0) (T := TX0) (N := 12) hx hb hts hin0 hown hK.1 hP 0 rfl rfl 4 (by decide) hf24 (fun _ h9 => h9) rfl dX0_goOn_39 ?_
  refine lv_iload_n hx hb dX0_goOn_42 rfl (lv_at hl 3 rfl) ?_
  refine lv_iload_n hx hb dX0_goOn_43 rfl (lv_at hl 1 rfl) ?_
  refine lv_aload_n hx hb dX0_goOn_44 rfl (lv_at hl 2 rfl) ?_
  refine va_get (ci := 0) (v := .ref (a 4)) (C := RX0) (T := TX0) (N := 12) hx hb hts hin0 hown hK.1 hP 0 rfl rfl 3 (by decide) hf21 (fun _ h9 => h9) rfl dX0_goOn_45 ?_
  refine lv_iload_n hx hb dX0_goOn_48 rfl (lv_at hl 0 rfl) ?_
  refine q_N (As := [.ref (a 4), .int (nI (4 * arm + (bp b arm)))]) (rest := [.int (nI (drawn (bz b))), .int (nI arm), .ref (a 5)]) ⟨hx, hb, hml, hown, hts⟩ (c_X4_at l C (a 4) 16 (4 * arm + (bp b arm)) (fun k => nI (bc b k)) (by omega) (by decide)) ⟨va_cnB 2 hts gX0_goOn_X4_at_n62 rfl rfl rfl (q_nw hK 1 rfl) (hts (.initialized RX4) (by decide +kernel)) (by decide +kernel) ⟨Nat.le_of_ble_eq_true rfl, Nat.le_of_ble_eq_true rfl⟩, hts (.static yX4_at) (by decide +kernel), trivial⟩ hK hP hD hS hA [4] (by decide) rfl rfl hl.1 rfl (Nat.le_of_ble_eq_true rfl) dX0_goOn_49 (Nat.zero_le _) (Nat.zero_le _) (fun r w1 H locs hQ hP hD hS => ?_)
  obtain ⟨rfl, rfl⟩ := hQ
  have hP : va_P C.1 vwCl ([(a 0, .inr (0, [.ref (a 1), .ref (a 2), .ref (a 3), .ref (a 4), .ref (a 5), .ref (a 6), .ref (a 7), .int (nI (bx b)), .int (nI (bl b) - 1), .long (br b), .long (lN (bw b)), .long (nextX (bz b))])), (a 1, .inl (C.2.1, 16, .inl (fun k => nI (bg b k)))), (a 2, .inl (C.2.1, 16, .inl (fun k => nI (bo b k)))), (a 3, .inl (C.2.1, 16, .inl (fun k => nI (bb b k)))), (a 4, .inl (C.2.1, 16, .inl (fun k => nI (bc b k)))), (a 5, .inl (C.2.1, 4, .inl (fun k => nI (bp b k)))), (a 6, .inl (C.2.1, 4, .inl (fun k => nI (bu b k)))), (a 7, .inl (C.2.1, 4, .inl (fun k => nI (bs b k))))]) H := hP
  have hD : va_D (q_A (wB C a b) s) ([(a 0, .inr (0, [.ref (a 1), .ref (a 2), .ref (a 3), .ref (a 4), .ref (a 5), .ref (a 6), .ref (a 7), .int (nI (bx b)), .int (nI (bl b) - 1), .long (br b), .long (lN (bw b)), .long (nextX (bz b))])), (a 1, .inl (C.2.1, 16, .inl (fun k => nI (bg b k)))), (a 2, .inl (C.2.1, 16, .inl (fun k => nI (bo b k)))), (a 3, .inl (C.2.1, 16, .inl (fun k => nI (bb b k)))), (a 4, .inl (C.2.1, 16, .inl (fun k => nI (bc b k)))), (a 5, .inl (C.2.1, 4, .inl (fun k => nI (bp b k)))), (a 6, .inl (C.2.1, 4, .inl (fun k => nI (bu b k)))), (a 7, .inl (C.2.1, 4, .inl (fun k => nI (bs b k))))]) := hD
  refine W.eq (g2 := F0 m 52 ls [.int (nI (bc b (4 * arm + (bp b arm)))), .int (nI (drawn (bz b))), .int (nI arm), .ref (a 5)]) rfl ?_
  refine lv_icmp_ge (tgt := 66) hx hb dX0_goOn_52 (by decide) (fun c52 => ?_) (fun c52 => ?_)
  · have c52 : (bc b (4 * arm + (bp b arm))) ≤ (drawn (bz b)) := q_nge (by omega) (by omega) c52
    refine lv_aload_n hx hb dX0_goOn_66 rfl (lv_at hl 2 rfl) ?_
    refine va_get (ci := 0) (v := .ref (a 3)) (C := RX0) (T := TX0) (N := 12) hx hb hts hin0 hown hK.1 hP 0 rfl rfl 2 (by decide) hf18 (fun _ h9 => h9) rfl dX0_goOn_67 ?_
    refine lv_iload_n hx hb dX0_goOn_70 rfl (lv_at hl 0 rfl) ?_
    refine q_N (As := [.ref (a 3), .int (nI (4 * arm + (bp b arm)))]) (rest := [.int (nI arm), .ref (a 5)]) ⟨hx, hb, hml, hown, hts⟩ (c_X4_at l C (a 3) 16 (4 * arm + (bp b arm)) (fun k => nI (bb b k)) (by omega) (by decide)) ⟨va_cnB 2 hts gX0_goOn_X4_at_n62 rfl rfl rfl (q_nw hK 1 rfl) (hts (.initialized RX4) (by decide +kernel)) (by decide +kernel) ⟨Nat.le_of_ble_eq_true rfl, Nat.le_of_ble_eq_true rfl⟩, hts (.static yX4_at) (by decide +kernel), trivial⟩ hK hP hD hS hA [3] (by decide) rfl rfl hl.1 rfl (Nat.le_of_ble_eq_true rfl) dX0_goOn_71 (Nat.zero_le _) (Nat.zero_le _) (fun r w1 H locs hQ hP hD hS => ?_)
    obtain ⟨rfl, rfl⟩ := hQ
    have hP : va_P C.1 vwCl ([(a 0, .inr (0, [.ref (a 1), .ref (a 2), .ref (a 3), .ref (a 4), .ref (a 5), .ref (a 6), .ref (a 7), .int (nI (bx b)), .int (nI (bl b) - 1), .long (br b), .long (lN (bw b)), .long (nextX (bz b))])), (a 1, .inl (C.2.1, 16, .inl (fun k => nI (bg b k)))), (a 2, .inl (C.2.1, 16, .inl (fun k => nI (bo b k)))), (a 3, .inl (C.2.1, 16, .inl (fun k => nI (bb b k)))), (a 4, .inl (C.2.1, 16, .inl (fun k => nI (bc b k)))), (a 5, .inl (C.2.1, 4, .inl (fun k => nI (bp b k)))), (a 6, .inl (C.2.1, 4, .inl (fun k => nI (bu b k)))), (a 7, .inl (C.2.1, 4, .inl (fun k => nI (bs b k))))]) H := hP
    have hD : va_D (q_A (wB C a b) s) ([(a 0, .inr (0, [.ref (a 1), .ref (a 2), .ref (a 3), .ref (a 4), .ref (a 5), .ref (a 6), .ref (a 7), .int (nI (bx b)), .int (nI (bl b) - 1), .long (br b), .long (lN (bw b)), .long (nextX (bz b))])), (a 1, .inl (C.2.1, 16, .inl (fun k => nI (bg b k)))), (a 2, .inl (C.2.1, 16, .inl (fun k => nI (bo b k)))), (a 3, .inl (C.2.1, 16, .inl (fun k => nI (bb b k)))), (a 4, .inl (C.2.1, 16, .inl (fun k => nI (bc b k)))), (a 5, .inl (C.2.1, 4, .inl (fun k => nI (bp b k)))), (a 6, .inl (C.2.1, 4, .inl (fun k => nI (bu b k)))), (a 7, .inl (C.2.1, 4, .inl (fun k => nI (bs b k))))]) := hD
    refine W.eq (g2 := F0 m 74 ls [.int (nI (bb b (4 * arm + (bp b arm)))), .int (nI arm), .ref (a 5)]) rfl ?_
    refine q_N (As := [.ref (a 5), .int (nI arm), .int (nI (bb b (4 * arm + (bp b arm))))]) (rest := []) ⟨hx, hb, hml, hown, hts⟩ (c_X4_store l C (a 5) 4 arm (fun k => nI (bp b k)) (nI (bb b (4 * arm + (bp b arm)))) (by omega) (by decide)) ⟨va_cnB 3 hts gX0_goOn_X4_store_n58 rfl rfl rfl (q_nw hK 0 rfl) (hts (.initialized RX4) (by decide +kernel)) (by decide +kernel) ⟨Nat.le_of_ble_eq_true rfl, Nat.le_of_ble_eq_true rfl⟩, hts (.static yX4_store) (by decide +kernel), trivial⟩ hK hP hD hS hA [5] (by decide) rfl rfl hl.1 rfl (Nat.le_of_ble_eq_true rfl) dX0_goOn_74 (Nat.zero_le _) (Nat.zero_le _) (fun r w1 H locs hQ hP hD hS => ?_)
    obtain ⟨rfl, rfl⟩ := hQ
    rw [q_upd] at hP hD
    have hP : va_P C.1 vwCl ([(a 0, .inr (0, [.ref (a 1), .ref (a 2), .ref (a 3), .ref (a 4), .ref (a 5), .ref (a 6), .ref (a 7), .int (nI (bx b)), .int (nI (bl b) - 1), .long (br b), .long (lN (bw b)), .long (nextX (bz b))])), (a 1, .inl (C.2.1, 16, .inl (fun k => nI (bg b k)))), (a 2, .inl (C.2.1, 16, .inl (fun k => nI (bo b k)))), (a 3, .inl (C.2.1, 16, .inl (fun k => nI (bb b k)))), (a 4, .inl (C.2.1, 16, .inl (fun k => nI (bc b k)))), (a 5, .inl (C.2.1, 4, .inl (fun k => nI (upN (bp b) arm (bb b (4 * arm + (bp b arm))) k)))), (a 6, .inl (C.2.1, 4, .inl (fun k => nI (bu b k)))), (a 7, .inl (C.2.1, 4, .inl (fun k => nI (bs b k))))]) H := hP
    have hD : va_D (q_A (wB C a b) s) ([(a 0, .inr (0, [.ref (a 1), .ref (a 2), .ref (a 3), .ref (a 4), .ref (a 5), .ref (a 6), .ref (a 7), .int (nI (bx b)), .int (nI (bl b) - 1), .long (br b), .long (lN (bw b)), .long (nextX (bz b))])), (a 1, .inl (C.2.1, 16, .inl (fun k => nI (bg b k)))), (a 2, .inl (C.2.1, 16, .inl (fun k => nI (bo b k)))), (a 3, .inl (C.2.1, 16, .inl (fun k => nI (bb b k)))), (a 4, .inl (C.2.1, 16, .inl (fun k => nI (bc b k)))), (a 5, .inl (C.2.1, 4, .inl (fun k => nI (upN (bp b) arm (bb b (4 * arm + (bp b arm))) k)))), (a 6, .inl (C.2.1, 4, .inl (fun k => nI (bu b k)))), (a 7, .inl (C.2.1, 4, .inl (fun k => nI (bs b k))))]) := hD
    refine W.eq (g2 := F0 m 77 ls []) rfl ?_
    have hP : va_P C.1 vwCl (wB C a (sz (sp b (upN (bp b) arm (bb b (4 * arm + bp b arm)))) (nextX (bz b)))) H := hP
    have hD : va_D (q_A (wB C a b) s) (wB C a (sz (sp b (upN (bp b) arm (bb b (4 * arm + bp b arm)))) (nextX (bz b)))) := hD
    exact q_vret hx hb hr hlocks (w1 := wB C a (sz (sp b (upN (bp b) arm (bb b (4 * arm + bp b arm)))) (nextX (bz b)))) hP hS rfl dX0_goOn_77 (⟨rfl, congrArg (wB C a) (by rw [goB, if_neg (Nat.not_lt.mpr c52)])⟩)
  · have c52 : (drawn (bz b)) < (bc b (4 * arm + (bp b arm))) := q_nge' (by omega) (by omega) c52
    refine lv_aload_n hx hb dX0_goOn_55 rfl (lv_at hl 2 rfl) ?_
    refine va_get (ci := 0) (v := .ref (a 2)) (C := RX0) (T := TX0) (N := 12) hx hb hts hin0 hown hK.1 hP 0 rfl rfl 1 (by decide) hf15 (fun _ h9 => h9) rfl dX0_goOn_56 ?_
    refine lv_iload_n hx hb dX0_goOn_59 rfl (lv_at hl 0 rfl) ?_
    refine q_N (As := [.ref (a 2), .int (nI (4 * arm + (bp b arm)))]) (rest := [.int (nI arm), .ref (a 5)]) ⟨hx, hb, hml, hown, hts⟩ (c_X4_at l C (a 2) 16 (4 * arm + (bp b arm)) (fun k => nI (bo b k)) (by omega) (by decide)) ⟨va_cnB 2 hts gX0_goOn_X4_at_n62 rfl rfl rfl (q_nw hK 1 rfl) (hts (.initialized RX4) (by decide +kernel)) (by decide +kernel) ⟨Nat.le_of_ble_eq_true rfl, Nat.le_of_ble_eq_true rfl⟩, hts (.static yX4_at) (by decide +kernel), trivial⟩ hK hP hD hS hA [2] (by decide) rfl rfl hl.1 rfl (Nat.le_of_ble_eq_true rfl) dX0_goOn_60 (Nat.zero_le _) (Nat.zero_le _) (fun r w1 H locs hQ hP hD hS => ?_)
    obtain ⟨rfl, rfl⟩ := hQ
    have hP : va_P C.1 vwCl ([(a 0, .inr (0, [.ref (a 1), .ref (a 2), .ref (a 3), .ref (a 4), .ref (a 5), .ref (a 6), .ref (a 7), .int (nI (bx b)), .int (nI (bl b) - 1), .long (br b), .long (lN (bw b)), .long (nextX (bz b))])), (a 1, .inl (C.2.1, 16, .inl (fun k => nI (bg b k)))), (a 2, .inl (C.2.1, 16, .inl (fun k => nI (bo b k)))), (a 3, .inl (C.2.1, 16, .inl (fun k => nI (bb b k)))), (a 4, .inl (C.2.1, 16, .inl (fun k => nI (bc b k)))), (a 5, .inl (C.2.1, 4, .inl (fun k => nI (bp b k)))), (a 6, .inl (C.2.1, 4, .inl (fun k => nI (bu b k)))), (a 7, .inl (C.2.1, 4, .inl (fun k => nI (bs b k))))]) H := hP
    have hD : va_D (q_A (wB C a b) s) ([(a 0, .inr (0, [.ref (a 1), .ref (a 2), .ref (a 3), .ref (a 4), .ref (a 5), .ref (a 6), .ref (a 7), .int (nI (bx b)), .int (nI (bl b) - 1), .long (br b), .long (lN (bw b)), .long (nextX (bz b))])), (a 1, .inl (C.2.1, 16, .inl (fun k => nI (bg b k)))), (a 2, .inl (C.2.1, 16, .inl (fun k => nI (bo b k)))), (a 3, .inl (C.2.1, 16, .inl (fun k => nI (bb b k)))), (a 4, .inl (C.2.1, 16, .inl (fun k => nI (bc b k)))), (a 5, .inl (C.2.1, 4, .inl (fun k => nI (bp b k)))), (a 6, .inl (C.2.1, 4, .inl (fun k => nI (bu b k)))), (a 7, .inl (C.2.1, 4, .inl (fun k => nI (bs b k))))]) := hD
    refine W.eq (g2 := F0 m 63 ls [.int (nI (bo b (4 * arm + (bp b arm)))), .int (nI arm), .ref (a 5)]) rfl ?_
    refine lv_goto (tgt := 74) hx hb dX0_goOn_63 (by decide) ?_
    refine q_N (As := [.ref (a 5), .int (nI arm), .int (nI (bo b (4 * arm + (bp b arm))))]) (rest := []) ⟨hx, hb, hml, hown, hts⟩ (c_X4_store l C (a 5) 4 arm (fun k => nI (bp b k)) (nI (bo b (4 * arm + (bp b arm)))) (by omega) (by decide)) ⟨va_cnB 3 hts gX0_goOn_X4_store_n58 rfl rfl rfl (q_nw hK 0 rfl) (hts (.initialized RX4) (by decide +kernel)) (by decide +kernel) ⟨Nat.le_of_ble_eq_true rfl, Nat.le_of_ble_eq_true rfl⟩, hts (.static yX4_store) (by decide +kernel), trivial⟩ hK hP hD hS hA [5] (by decide) rfl rfl hl.1 rfl (Nat.le_of_ble_eq_true rfl) dX0_goOn_74 (Nat.zero_le _) (Nat.zero_le _) (fun r w1 H locs hQ hP hD hS => ?_)
    obtain ⟨rfl, rfl⟩ := hQ
    rw [q_upd] at hP hD
    have hP : va_P C.1 vwCl ([(a 0, .inr (0, [.ref (a 1), .ref (a 2), .ref (a 3), .ref (a 4), .ref (a 5), .ref (a 6), .ref (a 7), .int (nI (bx b)), .int (nI (bl b) - 1), .long (br b), .long (lN (bw b)), .long (nextX (bz b))])), (a 1, .inl (C.2.1, 16, .inl (fun k => nI (bg b k)))), (a 2, .inl (C.2.1, 16, .inl (fun k => nI (bo b k)))), (a 3, .inl (C.2.1, 16, .inl (fun k => nI (bb b k)))), (a 4, .inl (C.2.1, 16, .inl (fun k => nI (bc b k)))), (a 5, .inl (C.2.1, 4, .inl (fun k => nI (upN (bp b) arm (bo b (4 * arm + (bp b arm))) k)))), (a 6, .inl (C.2.1, 4, .inl (fun k => nI (bu b k)))), (a 7, .inl (C.2.1, 4, .inl (fun k => nI (bs b k))))]) H := hP
    have hD : va_D (q_A (wB C a b) s) ([(a 0, .inr (0, [.ref (a 1), .ref (a 2), .ref (a 3), .ref (a 4), .ref (a 5), .ref (a 6), .ref (a 7), .int (nI (bx b)), .int (nI (bl b) - 1), .long (br b), .long (lN (bw b)), .long (nextX (bz b))])), (a 1, .inl (C.2.1, 16, .inl (fun k => nI (bg b k)))), (a 2, .inl (C.2.1, 16, .inl (fun k => nI (bo b k)))), (a 3, .inl (C.2.1, 16, .inl (fun k => nI (bb b k)))), (a 4, .inl (C.2.1, 16, .inl (fun k => nI (bc b k)))), (a 5, .inl (C.2.1, 4, .inl (fun k => nI (upN (bp b) arm (bo b (4 * arm + (bp b arm))) k)))), (a 6, .inl (C.2.1, 4, .inl (fun k => nI (bu b k)))), (a 7, .inl (C.2.1, 4, .inl (fun k => nI (bs b k))))]) := hD
    refine W.eq (g2 := F0 m 77 ls []) rfl ?_
    have hP : va_P C.1 vwCl (wB C a (sz (sp b (upN (bp b) arm (bo b (4 * arm + bp b arm)))) (nextX (bz b)))) H := hP
    have hD : va_D (q_A (wB C a b) s) (wB C a (sz (sp b (upN (bp b) arm (bo b (4 * arm + bp b arm)))) (nextX (bz b)))) := hD
    exact q_vret hx hb hr hlocks (w1 := wB C a (sz (sp b (upN (bp b) arm (bo b (4 * arm + bp b arm)))) (nextX (bz b)))) hP hS rfl dX0_goOn_77 (⟨rfl, congrArg (wB C a) (by rw [goB, if_pos c52])⟩)
end
section
/-! a pull -/
theorem restN_1 {b : Bd} {arm o : Nat} (h : o ≠ arm) : restN b arm (o + 1) = goB (restN b arm o) o := by rw [restN, rest1, if_pos h]
theorem restN_0 {b : Bd} {arm o : Nat} (h : o = arm) : restN b arm (o + 1) = restN b arm o := by rw [restN, rest1, if_neg (fun q => q h)]
theorem q_milN : (1000000 : Int64) = lN 1000000 := by decide
set_option maxHeartbeats 4000000 in
set_option maxRecDepth 100000 in
theorem c_X0_pullOnce (l : Launch) (C : q_C) (a : Nat → Nat) (b : Bd) (arm : Nat) (hB : OkB b) (ha : arm < 4) : q_M C l yX0_pullOnce wsX0_pullOnce 2 45 [.ref (a 0), .int (nI arm)] (wB C a b) (fun r w => r = none ∧ w = wB C a (pulB b arm)) := by
  obtain ⟨ok1, ok2, ⟨ok3, ok4, ok5, ok6, ok7⟩, ok8, ok9⟩ := id hB
  have hp4 := ok2 arm ha
  have h16 := ok1 (4 * arm + bp b arm) (by omega)
  have hwd : bw b * bs b 0 ≤ 1000000 * 99 := Nat.mul_le_mul ok9 ok3
  have hB1 := okB_pul0 hB arm ha
  have hB2 := okB_goB hB1 arm ha
  have hs3 : bs (goB (pul0 b arm) arm) 3 ≤ 1 := ok7
  refine q_head (cc := cX0_pullOnce) (maxL := 5) (ret := none) (by decide +kernel) rfl (Nat.le_of_ble_eq_true rfl) ?_
  intro p e s m below meth c hx hb hr hlocks hml hown hts hK hP hD hS hA ls hl
  have hl : lv_has ls 5 [(0, .ref (a 0)), (1, .int (nI arm))] := hl
  have hf24 := hts (.fieldLink RX0 24 "RestedArms$Board" "places" "[I") (by decide +kernel)
  have hf27 := hts (.fieldLink RX0 27 "RestedArms$Board" "pulls" "[I") (by decide +kernel)
  have hf30 := hts (.fieldLink RX0 30 "RestedArms$Board" "settings" "[I") (by decide +kernel)
  have hf33 := hts (.fieldLink RX0 33 "RestedArms$Board" "last" "I") (by decide +kernel)
  have hf39 := hts (.fieldLink RX0 39 "RestedArms$Board" "weight" "J") (by decide +kernel)
  have hf52 := hts (.fieldLink RX0 52 "RestedArms$Board" "changes" "I") (by decide +kernel)
  have hf55 := hts (.fieldLink RX0 55 "RestedArms$Board" "brought" "J") (by decide +kernel)
  have hf9 := hts (.fieldLink RX0 9 "RestedArms$Board" "gifts" "[I") (by decide +kernel)
  have hin0 : ∀ w ∈ u_ws RX0 TX0 12, w ∈ wsX0_pullOnce := by decide +kernel
  have hk37 := hts (.constantLong RX0 37 (1000000)) (by decide +kernel)
  have hk72 := hts (.constantLong RX0 72 (1000)) (by decide +kernel)
  have hk84 := hts (.constantLong RX0 84 (100)) (by decide +kernel)
  refine lv_ldc2 hx hb hown hk72 dX0_pullOnce_0 ?_
  refine q_tl (y := lN 1000) (by decide) ?_
  refine lv_aload_n hx hb dX0_pullOnce_3 rfl (lv_at hl 0 rfl) ?_
  refine va_get (ci := 0) (v := .ref (a 1)) (C := RX0) (T := TX0) (N := 12) hx hb hts hin0 hown hK.1 hP 0 rfl rfl 0 (by decide) hf9 (fun _ h9 => h9) rfl dX0_pullOnce_4 ?_
  refine lv_iload_n hx hb dX0_pullOnce_7 rfl (lv_at hl 1 rfl) ?_
  refine lv_aload_n hx hb dX0_pullOnce_8 rfl (lv_at hl 0 rfl) ?_
  refine va_get (ci := 0) (v := .ref (a 5)) (C := RX0) (T := TX0) (N := 12) hx hb hts hin0 hown hK.1 hP 0 rfl rfl 4 (by decide) hf24 (fun _ h9 => h9) rfl dX0_pullOnce_9 ?_
  refine lv_iload_n hx hb dX0_pullOnce_12 rfl (lv_at hl 1 rfl) ?_
  refine q_N (As := [.ref (a 5), .int (nI arm)]) (rest := [.int (nI arm), .ref (a 1), .long (lN 1000)]) ⟨hx, hb, hml, hown, hts⟩ (c_X4_at l C (a 5) 4 arm (fun k => nI (bp b k)) (by omega) (by decide)) ⟨va_cnB 2 hts gX0_pullOnce_X4_at_n62 rfl rfl rfl (q_nw hK 1 rfl) (hts (.initialized RX4) (by decide +kernel)) (by decide +kernel) ⟨Nat.le_of_ble_eq_true rfl, Nat.le_of_ble_eq_true rfl⟩, hts (.static yX4_at) (by decide +kernel), trivial⟩ hK hP hD hS hA [5] (by decide) rfl rfl hl.1 rfl (Nat.le_of_ble_eq_true rfl) dX0_pullOnce_13 (Nat.zero_le _) (Nat.zero_le _) (fun r w1 H locs hQ hP hD hS => ?_)
  obtain ⟨rfl, rfl⟩ := hQ
  have hP : va_P C.1 vwCl (wB C a b) H := hP
  have hD : va_D (q_A (wB C a b) s) (wB C a b) := hD
  refine W.eq (g2 := F0 m 16 ls [.int (nI (bp b arm)), .int (nI arm), .ref (a 1), .long (lN 1000)]) rfl ?_
  refine q_N (As := [.int (nI arm), .int (nI (bp b arm))]) (rest := [.ref (a 1), .long (lN 1000)]) ⟨hx, hb, hml, hown, hts⟩ (c_X4_slotOf l C arm (bp b arm)) ⟨va_cnB 2 hts gX0_pullOnce_X4_slotOf_n74 rfl rfl rfl (q_nw hK 2 rfl) (hts (.initialized RX4) (by decide +kernel)) (by decide +kernel) ⟨Nat.le_of_ble_eq_true rfl, Nat.le_of_ble_eq_true rfl⟩, hts (.static yX4_slotOf) (by decide +kernel), trivial⟩ hK hP hD hS hA [] (by decide) rfl rfl hl.1 rfl (Nat.le_of_ble_eq_true rfl) dX0_pullOnce_16 (Nat.zero_le _) (Nat.zero_le _) (fun r w1 H locs hQ hP hD hS => ?_)
  obtain ⟨rfl, rfl⟩ := hQ
  refine W.eq (g2 := F0 m 19 ls [.int (nI (4 * arm + (bp b arm))), .ref (a 1), .long (lN 1000)]) rfl ?_
  refine q_N (As := [.ref (a 1), .int (nI (4 * arm + (bp b arm)))]) (rest := [.long (lN 1000)]) ⟨hx, hb, hml, hown, hts⟩ (c_X4_at l C (a 1) 16 (4 * arm + (bp b arm)) (fun k => nI (bg b k)) (by omega) (by decide)) ⟨va_cnB 2 hts gX0_pullOnce_X4_at_n62 rfl rfl rfl (q_nw hK 1 rfl) (hts (.initialized RX4) (by decide +kernel)) (by decide +kernel) ⟨Nat.le_of_ble_eq_true rfl, Nat.le_of_ble_eq_true rfl⟩, hts (.static yX4_at) (by decide +kernel), trivial⟩ hK hP hD hS hA [1] (by decide) rfl rfl hl.1 rfl (Nat.le_of_ble_eq_true rfl) dX0_pullOnce_19 (Nat.zero_le _) (Nat.zero_le _) (fun r w1 H locs hQ hP hD hS => ?_)
  obtain ⟨rfl, rfl⟩ := hQ
  have hP : va_P C.1 vwCl (wB C a b) H := hP
  have hD : va_D (q_A (wB C a b) s) (wB C a b) := hD
  refine W.eq (g2 := F0 m 22 ls [.int (nI (bg b (4 * arm + (bp b arm)))), .long (lN 1000)]) rfl ?_
  refine lv_i2l (v := lN (bg b (4 * arm + (bp b arm)))) hx hb dX0_pullOnce_22 (nI_l (by omega)) ?_
  refine lv_lmul hx hb dX0_pullOnce_23 ?_
  refine q_tl (y := lN (1000 * (bg b (4 * arm + (bp b arm))))) (lN_mul _ _) ?_
  refine lv_lstore_n (lv' := [(2, .long (lN (1000 * (bg b (4 * arm + (bp b arm)))))), (0, .ref (a 0)), (1, .int (nI arm))]) hx hb dX0_pullOnce_24 rfl hl (by decide) rfl (fun ls hl => ?_)
  refine lv_aload_n hx hb dX0_pullOnce_25 rfl (lv_at hl 1 rfl) ?_
  refine lv_iload_n hx hb dX0_pullOnce_26 rfl (lv_at hl 2 rfl) ?_
  refine q_V (As := [.int (nI arm)]) (rest := []) ⟨hx, hb, hml, hown, hts⟩ (c_X0_wouldChange l C a b arm hB (by omega)) (cwV 1 hts gX0_pullOnce_X0_wouldChange rfl rfl rfl (by decide +kernel) ⟨Nat.le_of_ble_eq_true rfl, Nat.le_of_ble_eq_true rfl⟩) hK hP hD hS hA [0, 1, 2, 3, 4, 5, 6, 7] (by decide) rfl 0 rfl rfl rfl rfl hl.1 rfl (Nat.le_of_ble_eq_true rfl) dX0_pullOnce_27 (Nat.zero_le _) (Nat.zero_le _) (fun r w1 H locs hQ hP hD hS => ?_)
  obtain ⟨rfl, rfl⟩ := hQ
  have hP : va_P C.1 vwCl (wB C a b) H := hP
  have hD : va_D (q_A (wB C a b) s) (wB C a b) := hD
  refine W.eq (g2 := F0 m 30 ls [.int (q_b (othB b arm))]) rfl ?_
  have J59 : ∀ (H : Heap) (locs : List Loc) (ls : Array Slot), va_P C.1 vwCl ([(a 0, .inr (0, [.ref (a 1), .ref (a 2), .ref (a 3), .ref (a 4), .ref (a 5), .ref (a 6), .ref (a 7), .int (nI (if othB b arm = true then bx b + 1 else bx b)), .int (nI (bl b) - 1), .long (br b), .long (lN (bw b)), .long (bz b)])), (a 1, .inl (C.2.1, 16, .inl (fun k => nI (bg b k)))), (a 2, .inl (C.2.1, 16, .inl (fun k => nI (bo b k)))), (a 3, .inl (C.2.1, 16, .inl (fun k => nI (bb b k)))), (a 4, .inl (C.2.1, 16, .inl (fun k => nI (bc b k)))), (a 5, .inl (C.2.1, 4, .inl (fun k => nI (bp b k)))), (a 6, .inl (C.2.1, 4, .inl (fun k => nI (bu b k)))), (a 7, .inl (C.2.1, 4, .inl (fun k => nI (bs b k))))]) H → va_D (q_A (wB C a b) s) ([(a 0, .inr (0, [.ref (a 1), .ref (a 2), .ref (a 3), .ref (a 4), .ref (a 5), .ref (a 6), .ref (a 7), .int (nI (if othB b arm = true then bx b + 1 else bx b)), .int (nI (bl b) - 1), .long (br b), .long (lN (bw b)), .long (bz b)])), (a 1, .inl (C.2.1, 16, .inl (fun k => nI (bg b k)))), (a 2, .inl (C.2.1, 16, .inl (fun k => nI (bo b k)))), (a 3, .inl (C.2.1, 16, .inl (fun k => nI (bb b k)))), (a 4, .inl (C.2.1, 16, .inl (fun k => nI (bc b k)))), (a 5, .inl (C.2.1, 4, .inl (fun k => nI (bp b k)))), (a 6, .inl (C.2.1, 4, .inl (fun k => nI (bu b k)))), (a 7, .inl (C.2.1, 4, .inl (fun k => nI (bs b k))))]) → va_S (q_A (wB C a b) s) s.heap H locs → lv_has ls 5 [(2, .long (if othB b arm = true then lN (1000 * bg b (4 * arm + bp b arm)) - lN (1000 * bs b 2) else lN (1000 * bg b (4 * arm + bp b arm)))), (0, .ref (a 0)), (1, .int (nI arm))] → W p l e (q_R 2 45) s m ([.ref (a 0), .int (nI arm)] : List Value).toArray below meth c H locs 0 0 (q_G C below (wB C a b) (fun r w => r = none ∧ w = wB C a (pulB b arm)) ([.ref (a 0), .int (nI arm)] : List Value).toArray s) (F0 m 59 ls []) := by
    intro H locs ls hP hD hS hl
    refine lv_aload_n hx hb dX0_pullOnce_59 rfl (lv_at hl 1 rfl) ?_
    refine lv_dup hx hb dX0_pullOnce_60 rfl ?_
    refine va_get (ci := 0) (v := .long (br b)) (C := RX0) (T := TX0) (N := 12) hx hb hts hin0 hown hK.1 hP 0 rfl rfl 9 (by decide) hf55 (fun _ h9 => h9) rfl dX0_pullOnce_61 ?_
    refine lv_lload_n hx hb dX0_pullOnce_64 rfl (lv_at hl 0 rfl) ?_
    refine lv_aload_n hx hb dX0_pullOnce_65 rfl (lv_at hl 1 rfl) ?_
    refine va_get (ci := 0) (v := .long (lN (bw b))) (C := RX0) (T := TX0) (N := 12) hx hb hts hin0 hown hK.1 hP 0 rfl rfl 10 (by decide) hf39 (fun _ h9 => h9) rfl dX0_pullOnce_66 ?_
    refine lv_lmul hx hb dX0_pullOnce_69 ?_
    refine lv_ldc2 hx hb hown hk37 dX0_pullOnce_70 ?_
    refine q_tl (y := lN 1000000) (by decide) ?_
    refine q_S (As := [.long ((if othB b arm = true then lN (1000 * bg b (4 * arm + bp b arm)) - lN (1000 * bs b 2) else lN (1000 * bg b (4 * arm + bp b arm))) * (lN (bw b))), .long (lN 1000000)]) (rest := [.long (br b), .ref (a 0)]) ⟨hx, hb, hml, hown, hts⟩ (c_J9_floorDiv_f86c9 l C ((if othB b arm = true then lN (1000 * bg b (4 * arm + bp b arm)) - lN (1000 * bs b 2) else lN (1000 * bg b (4 * arm + bp b arm))) * (lN (bw b))) (lN 1000000) (by decide)) (va_cwS 2 hts gX0_pullOnce_J9_floorDiv_f86c9 rfl rfl rfl (by decide +kernel) ⟨Nat.le_of_ble_eq_true rfl, Nat.le_of_ble_eq_true rfl⟩) hK hP hD hS hA [] (by decide) rfl rfl hl.1 rfl (Nat.le_of_ble_eq_true rfl) dX0_pullOnce_73 (Nat.zero_le _) (Nat.zero_le _) (fun r w1 H locs hQ hP hD hS => ?_)
    obtain ⟨rfl, rfl⟩ := hQ
    refine W.eq (g2 := F0 m 76 ls [.long (fdv ((if othB b arm = true then lN (1000 * bg b (4 * arm + bp b arm)) - lN (1000 * bs b 2) else lN (1000 * bg b (4 * arm + bp b arm))) * (lN (bw b))) (lN 1000000)), .long (br b), .ref (a 0)]) rfl ?_
    refine lv_ladd hx hb dX0_pullOnce_76 ?_
    refine va_put (ci := 0) (v := .long ((br b) + (fdv ((if othB b arm = true then lN (1000 * bg b (4 * arm + bp b arm)) - lN (1000 * bs b 2) else lN (1000 * bg b (4 * arm + bp b arm))) * (lN (bw b))) (lN 1000000)))) (ty := .long) (C := RX0) (T := TX0) (N := 12) hx hb hts hin0 tyX0 tyX0_ok nmX0 hown hK.1 hP hD hS 0 rfl rfl 9 (by decide) hf55 (fun _ h9 => h9) rfl (by decide +kernel) rfl rfl (Nat.le_of_ble_eq_true rfl) dX0_pullOnce_77 (fun H locs hP hD hS => ?_)
    have hP : va_P C.1 vwCl ([(a 0, .inr (0, [.ref (a 1), .ref (a 2), .ref (a 3), .ref (a 4), .ref (a 5), .ref (a 6), .ref (a 7), .int (nI (if othB b arm = true then bx b + 1 else bx b)), .int (nI (bl b) - 1), .long ((br b) + (fdv ((if othB b arm = true then lN (1000 * bg b (4 * arm + bp b arm)) - lN (1000 * bs b 2) else lN (1000 * bg b (4 * arm + bp b arm))) * (lN (bw b))) (lN 1000000))), .long (lN (bw b)), .long (bz b)])), (a 1, .inl (C.2.1, 16, .inl (fun k => nI (bg b k)))), (a 2, .inl (C.2.1, 16, .inl (fun k => nI (bo b k)))), (a 3, .inl (C.2.1, 16, .inl (fun k => nI (bb b k)))), (a 4, .inl (C.2.1, 16, .inl (fun k => nI (bc b k)))), (a 5, .inl (C.2.1, 4, .inl (fun k => nI (bp b k)))), (a 6, .inl (C.2.1, 4, .inl (fun k => nI (bu b k)))), (a 7, .inl (C.2.1, 4, .inl (fun k => nI (bs b k))))]) H := hP
    have hD : va_D (q_A (wB C a b) s) ([(a 0, .inr (0, [.ref (a 1), .ref (a 2), .ref (a 3), .ref (a 4), .ref (a 5), .ref (a 6), .ref (a 7), .int (nI (if othB b arm = true then bx b + 1 else bx b)), .int (nI (bl b) - 1), .long ((br b) + (fdv ((if othB b arm = true then lN (1000 * bg b (4 * arm + bp b arm)) - lN (1000 * bs b 2) else lN (1000 * bg b (4 * arm + bp b arm))) * (lN (bw b))) (lN 1000000))), .long (lN (bw b)), .long (bz b)])), (a 1, .inl (C.2.1, 16, .inl (fun k => nI (bg b k)))), (a 2, .inl (C.2.1, 16, .inl (fun k => nI (bo b k)))), (a 3, .inl (C.2.1, 16, .inl (fun k => nI (bb b k)))), (a 4, .inl (C.2.1, 16, .inl (fun k => nI (bc b k)))), (a 5, .inl (C.2.1, 4, .inl (fun k => nI (bp b k)))), (a 6, .inl (C.2.1, 4, .inl (fun k => nI (bu b k)))), (a 7, .inl (C.2.1, 4, .inl (fun k => nI (bs b k))))]) := hD
    refine lv_aload_n hx hb dX0_pullOnce_80 rfl (lv_at hl 1 rfl) ?_
    refine lv_aload_n hx hb dX0_pullOnce_81 rfl (lv_at hl 1 rfl) ?_
    refine va_get (ci := 0) (v := .long (lN (bw b))) (C := RX0) (T := TX0) (N := 12) hx hb hts hin0 hown hK.1 hP 0 rfl rfl 10 (by decide) hf39 (fun _ h9 => h9) rfl dX0_pullOnce_82 ?_
    refine lv_aload_n hx hb dX0_pullOnce_85 rfl (lv_at hl 1 rfl) ?_
    refine va_get (ci := 0) (v := .ref (a 7)) (C := RX0) (T := TX0) (N := 12) hx hb hts hin0 hown hK.1 hP 0 rfl rfl 6 (by decide) hf30 (fun _ h9 => h9) rfl dX0_pullOnce_86 ?_
    refine lv_iconst (v := nI 0) hx hb dX0_pullOnce_89 (by decide) ?_
    refine q_N (As := [.ref (a 7), .int (nI 0)]) (rest := [.long (lN (bw b)), .ref (a 0)]) ⟨hx, hb, hml, hown, hts⟩ (c_X4_at l C (a 7) 4 0 (fun k => nI (bs b k)) (by decide) (by decide)) ⟨va_cnB 2 hts gX0_pullOnce_X4_at_n62 rfl rfl rfl (q_nw hK 1 rfl) (hts (.initialized RX4) (by decide +kernel)) (by decide +kernel) ⟨Nat.le_of_ble_eq_true rfl, Nat.le_of_ble_eq_true rfl⟩, hts (.static yX4_at) (by decide +kernel), trivial⟩ hK hP hD hS hA [7] (by decide) rfl rfl hl.1 rfl (Nat.le_of_ble_eq_true rfl) dX0_pullOnce_90 (Nat.zero_le _) (Nat.zero_le _) (fun r w1 H locs hQ hP hD hS => ?_)
    obtain ⟨rfl, rfl⟩ := hQ
    have hP : va_P C.1 vwCl ([(a 0, .inr (0, [.ref (a 1), .ref (a 2), .ref (a 3), .ref (a 4), .ref (a 5), .ref (a 6), .ref (a 7), .int (nI (if othB b arm = true then bx b + 1 else bx b)), .int (nI (bl b) - 1), .long ((br b) + (fdv ((if othB b arm = true then lN (1000 * bg b (4 * arm + bp b arm)) - lN (1000 * bs b 2) else lN (1000 * bg b (4 * arm + bp b arm))) * (lN (bw b))) (lN 1000000))), .long (lN (bw b)), .long (bz b)])), (a 1, .inl (C.2.1, 16, .inl (fun k => nI (bg b k)))), (a 2, .inl (C.2.1, 16, .inl (fun k => nI (bo b k)))), (a 3, .inl (C.2.1, 16, .inl (fun k => nI (bb b k)))), (a 4, .inl (C.2.1, 16, .inl (fun k => nI (bc b k)))), (a 5, .inl (C.2.1, 4, .inl (fun k => nI (bp b k)))), (a 6, .inl (C.2.1, 4, .inl (fun k => nI (bu b k)))), (a 7, .inl (C.2.1, 4, .inl (fun k => nI (bs b k))))]) H := hP
    have hD : va_D (q_A (wB C a b) s) ([(a 0, .inr (0, [.ref (a 1), .ref (a 2), .ref (a 3), .ref (a 4), .ref (a 5), .ref (a 6), .ref (a 7), .int (nI (if othB b arm = true then bx b + 1 else bx b)), .int (nI (bl b) - 1), .long ((br b) + (fdv ((if othB b arm = true then lN (1000 * bg b (4 * arm + bp b arm)) - lN (1000 * bs b 2) else lN (1000 * bg b (4 * arm + bp b arm))) * (lN (bw b))) (lN 1000000))), .long (lN (bw b)), .long (bz b)])), (a 1, .inl (C.2.1, 16, .inl (fun k => nI (bg b k)))), (a 2, .inl (C.2.1, 16, .inl (fun k => nI (bo b k)))), (a 3, .inl (C.2.1, 16, .inl (fun k => nI (bb b k)))), (a 4, .inl (C.2.1, 16, .inl (fun k => nI (bc b k)))), (a 5, .inl (C.2.1, 4, .inl (fun k => nI (bp b k)))), (a 6, .inl (C.2.1, 4, .inl (fun k => nI (bu b k)))), (a 7, .inl (C.2.1, 4, .inl (fun k => nI (bs b k))))]) := hD
    refine W.eq (g2 := F0 m 93 ls [.int (nI (bs b 0)), .long (lN (bw b)), .ref (a 0)]) rfl ?_
    refine lv_i2l (v := lN (bs b 0)) hx hb dX0_pullOnce_93 (nI_l (by omega)) ?_
    refine lv_lmul hx hb dX0_pullOnce_94 ?_
    refine q_tl (y := lN ((bw b) * (bs b 0))) (lN_mul _ _) ?_
    refine lv_ldc2 hx hb hown hk84 dX0_pullOnce_95 ?_
    refine q_tl (y := lN 100) (by decide) ?_
    refine q_S (As := [.long (lN ((bw b) * (bs b 0))), .long (lN 100)]) (rest := [.ref (a 0)]) ⟨hx, hb, hml, hown, hts⟩ (c_J9_floorDiv_f86c9 l C (lN ((bw b) * (bs b 0))) (lN 100) (by decide)) (va_cwS 2 hts gX0_pullOnce_J9_floorDiv_f86c9 rfl rfl rfl (by decide +kernel) ⟨Nat.le_of_ble_eq_true rfl, Nat.le_of_ble_eq_true rfl⟩) hK hP hD hS hA [] (by decide) rfl rfl hl.1 rfl (Nat.le_of_ble_eq_true rfl) dX0_pullOnce_98 (Nat.zero_le _) (Nat.zero_le _) (fun r w1 H locs hQ hP hD hS => ?_)
    obtain ⟨rfl, rfl⟩ := hQ
    refine W.eq (g2 := F0 m 101 ls [.long (fdv (lN ((bw b) * (bs b 0))) (lN 100)), .ref (a 0)]) rfl ?_
    refine q_tl (y := lN (((bw b) * (bs b 0)) / 100)) (fdv_N (by omega) (by decide) (by decide)) ?_
    refine va_put (ci := 0) (v := .long (lN (((bw b) * (bs b 0)) / 100))) (ty := .long) (C := RX0) (T := TX0) (N := 12) hx hb hts hin0 tyX0 tyX0_ok nmX0 hown hK.1 hP hD hS 0 rfl rfl 10 (by decide) hf39 (fun _ h9 => h9) rfl (by decide +kernel) rfl rfl (Nat.le_of_ble_eq_true rfl) dX0_pullOnce_101 (fun H locs hP hD hS => ?_)
    have hP : va_P C.1 vwCl ([(a 0, .inr (0, [.ref (a 1), .ref (a 2), .ref (a 3), .ref (a 4), .ref (a 5), .ref (a 6), .ref (a 7), .int (nI (if othB b arm = true then bx b + 1 else bx b)), .int (nI (bl b) - 1), .long ((br b) + (fdv ((if othB b arm = true then lN (1000 * bg b (4 * arm + bp b arm)) - lN (1000 * bs b 2) else lN (1000 * bg b (4 * arm + bp b arm))) * (lN (bw b))) (lN 1000000))), .long (lN (((bw b) * (bs b 0)) / 100)), .long (bz b)])), (a 1, .inl (C.2.1, 16, .inl (fun k => nI (bg b k)))), (a 2, .inl (C.2.1, 16, .inl (fun k => nI (bo b k)))), (a 3, .inl (C.2.1, 16, .inl (fun k => nI (bb b k)))), (a 4, .inl (C.2.1, 16, .inl (fun k => nI (bc b k)))), (a 5, .inl (C.2.1, 4, .inl (fun k => nI (bp b k)))), (a 6, .inl (C.2.1, 4, .inl (fun k => nI (bu b k)))), (a 7, .inl (C.2.1, 4, .inl (fun k => nI (bs b k))))]) H := hP
    have hD : va_D (q_A (wB C a b) s) ([(a 0, .inr (0, [.ref (a 1), .ref (a 2), .ref (a 3), .ref (a 4), .ref (a 5), .ref (a 6), .ref (a 7), .int (nI (if othB b arm = true then bx b + 1 else bx b)), .int (nI (bl b) - 1), .long ((br b) + (fdv ((if othB b arm = true then lN (1000 * bg b (4 * arm + bp b arm)) - lN (1000 * bs b 2) else lN (1000 * bg b (4 * arm + bp b arm))) * (lN (bw b))) (lN 1000000))), .long (lN (((bw b) * (bs b 0)) / 100)), .long (bz b)])), (a 1, .inl (C.2.1, 16, .inl (fun k => nI (bg b k)))), (a 2, .inl (C.2.1, 16, .inl (fun k => nI (bo b k)))), (a 3, .inl (C.2.1, 16, .inl (fun k => nI (bb b k)))), (a 4, .inl (C.2.1, 16, .inl (fun k => nI (bc b k)))), (a 5, .inl (C.2.1, 4, .inl (fun k => nI (bp b k)))), (a 6, .inl (C.2.1, 4, .inl (fun k => nI (bu b k)))), (a 7, .inl (C.2.1, 4, .inl (fun k => nI (bs b k))))]) := hD
    refine lv_aload_n hx hb dX0_pullOnce_104 rfl (lv_at hl 1 rfl) ?_
    refine lv_iload_n hx hb dX0_pullOnce_105 rfl (lv_at hl 2 rfl) ?_
    refine va_put (ci := 0) (v := .int (nI arm)) (ty := .int) (C := RX0) (T := TX0) (N := 12) hx hb hts hin0 tyX0 tyX0_ok nmX0 hown hK.1 hP hD hS 0 rfl rfl 8 (by decide) hf33 (fun _ h9 => h9) rfl (by decide +kernel) rfl rfl (Nat.le_of_ble_eq_true rfl) dX0_pullOnce_106 (fun H locs hP hD hS => ?_)
    have hP : va_P C.1 vwCl ([(a 0, .inr (0, [.ref (a 1), .ref (a 2), .ref (a 3), .ref (a 4), .ref (a 5), .ref (a 6), .ref (a 7), .int (nI (if othB b arm = true then bx b + 1 else bx b)), .int (nI arm), .long ((br b) + (fdv ((if othB b arm = true then lN (1000 * bg b (4 * arm + bp b arm)) - lN (1000 * bs b 2) else lN (1000 * bg b (4 * arm + bp b arm))) * (lN (bw b))) (lN 1000000))), .long (lN (((bw b) * (bs b 0)) / 100)), .long (bz b)])), (a 1, .inl (C.2.1, 16, .inl (fun k => nI (bg b k)))), (a 2, .inl (C.2.1, 16, .inl (fun k => nI (bo b k)))), (a 3, .inl (C.2.1, 16, .inl (fun k => nI (bb b k)))), (a 4, .inl (C.2.1, 16, .inl (fun k => nI (bc b k)))), (a 5, .inl (C.2.1, 4, .inl (fun k => nI (bp b k)))), (a 6, .inl (C.2.1, 4, .inl (fun k => nI (bu b k)))), (a 7, .inl (C.2.1, 4, .inl (fun k => nI (bs b k))))]) H := hP
    have hD : va_D (q_A (wB C a b) s) ([(a 0, .inr (0, [.ref (a 1), .ref (a 2), .ref (a 3), .ref (a 4), .ref (a 5), .ref (a 6), .ref (a 7), .int (nI (if othB b arm = true then bx b + 1 else bx b)), .int (nI arm), .long ((br b) + (fdv ((if othB b arm = true then lN (1000 * bg b (4 * arm + bp b arm)) - lN (1000 * bs b 2) else lN (1000 * bg b (4 * arm + bp b arm))) * (lN (bw b))) (lN 1000000))), .long (lN (((bw b) * (bs b 0)) / 100)), .long (bz b)])), (a 1, .inl (C.2.1, 16, .inl (fun k => nI (bg b k)))), (a 2, .inl (C.2.1, 16, .inl (fun k => nI (bo b k)))), (a 3, .inl (C.2.1, 16, .inl (fun k => nI (bb b k)))), (a 4, .inl (C.2.1, 16, .inl (fun k => nI (bc b k)))), (a 5, .inl (C.2.1, 4, .inl (fun k => nI (bp b k)))), (a 6, .inl (C.2.1, 4, .inl (fun k => nI (bu b k)))), (a 7, .inl (C.2.1, 4, .inl (fun k => nI (bs b k))))]) := hD
    refine lv_aload_n hx hb dX0_pullOnce_109 rfl (lv_at hl 1 rfl) ?_
    refine va_get (ci := 0) (v := .ref (a 6)) (C := RX0) (T := TX0) (N := 12) hx hb hts hin0 hown hK.1 hP 0 rfl rfl 5 (by decide) hf27 (fun _ h9 => h9) rfl dX0_pullOnce_110 ?_
    refine lv_iload_n hx hb dX0_pullOnce_113 rfl (lv_at hl 2 rfl) ?_
    refine lv_aload_n hx hb dX0_pullOnce_114 rfl (lv_at hl 1 rfl) ?_
    refine va_get (ci := 0) (v := .ref (a 6)) (C := RX0) (T := TX0) (N := 12) hx hb hts hin0 hown hK.1 hP 0 rfl rfl 5 (by decide) hf27 (fun _ h9 => h9) rfl dX0_pullOnce_115 ?_
    refine lv_iload_n hx hb dX0_pullOnce_118 rfl (lv_at hl 2 rfl) ?_
    refine q_N (As := [.ref (a 6), .int (nI arm)]) (rest := [.int (nI arm), .ref (a 6)]) ⟨hx, hb, hml, hown, hts⟩ (c_X4_at l C (a 6) 4 arm (fun k => nI (bu b k)) (by omega) (by decide)) ⟨va_cnB 2 hts gX0_pullOnce_X4_at_n62 rfl rfl rfl (q_nw hK 1 rfl) (hts (.initialized RX4) (by decide +kernel)) (by decide +kernel) ⟨Nat.le_of_ble_eq_true rfl, Nat.le_of_ble_eq_true rfl⟩, hts (.static yX4_at) (by decide +kernel), trivial⟩ hK hP hD hS hA [6] (by decide) rfl rfl hl.1 rfl (Nat.le_of_ble_eq_true rfl) dX0_pullOnce_119 (Nat.zero_le _) (Nat.zero_le _) (fun r w1 H locs hQ hP hD hS => ?_)
    obtain ⟨rfl, rfl⟩ := hQ
    have hP : va_P C.1 vwCl ([(a 0, .inr (0, [.ref (a 1), .ref (a 2), .ref (a 3), .ref (a 4), .ref (a 5), .ref (a 6), .ref (a 7), .int (nI (if othB b arm = true then bx b + 1 else bx b)), .int (nI arm), .long ((br b) + (fdv ((if othB b arm = true then lN (1000 * bg b (4 * arm + bp b arm)) - lN (1000 * bs b 2) else lN (1000 * bg b (4 * arm + bp b arm))) * (lN (bw b))) (lN 1000000))), .long (lN (((bw b) * (bs b 0)) / 100)), .long (bz b)])), (a 1, .inl (C.2.1, 16, .inl (fun k => nI (bg b k)))), (a 2, .inl (C.2.1, 16, .inl (fun k => nI (bo b k)))), (a 3, .inl (C.2.1, 16, .inl (fun k => nI (bb b k)))), (a 4, .inl (C.2.1, 16, .inl (fun k => nI (bc b k)))), (a 5, .inl (C.2.1, 4, .inl (fun k => nI (bp b k)))), (a 6, .inl (C.2.1, 4, .inl (fun k => nI (bu b k)))), (a 7, .inl (C.2.1, 4, .inl (fun k => nI (bs b k))))]) H := hP
    have hD : va_D (q_A (wB C a b) s) ([(a 0, .inr (0, [.ref (a 1), .ref (a 2), .ref (a 3), .ref (a 4), .ref (a 5), .ref (a 6), .ref (a 7), .int (nI (if othB b arm = true then bx b + 1 else bx b)), .int (nI arm), .long ((br b) + (fdv ((if othB b arm = true then lN (1000 * bg b (4 * arm + bp b arm)) - lN (1000 * bs b 2) else lN (1000 * bg b (4 * arm + bp b arm))) * (lN (bw b))) (lN 1000000))), .long (lN (((bw b) * (bs b 0)) / 100)), .long (bz b)])), (a 1, .inl (C.2.1, 16, .inl (fun k => nI (bg b k)))), (a 2, .inl (C.2.1, 16, .inl (fun k => nI (bo b k)))), (a 3, .inl (C.2.1, 16, .inl (fun k => nI (bb b k)))), (a 4, .inl (C.2.1, 16, .inl (fun k => nI (bc b k)))), (a 5, .inl (C.2.1, 4, .inl (fun k => nI (bp b k)))), (a 6, .inl (C.2.1, 4, .inl (fun k => nI (bu b k)))), (a 7, .inl (C.2.1, 4, .inl (fun k => nI (bs b k))))]) := hD
    refine W.eq (g2 := F0 m 122 ls [.int (nI (bu b arm)), .int (nI arm), .ref (a 6)]) rfl ?_
    refine lv_iconst (v := nI 1) hx hb dX0_pullOnce_122 (by decide) ?_
    refine lv_iadd hx hb dX0_pullOnce_123 ?_
    refine q_ti (y := nI ((bu b arm) + 1)) (nI_add _ _) ?_
    refine q_N (As := [.ref (a 6), .int (nI arm), .int (nI ((bu b arm) + 1))]) (rest := []) ⟨hx, hb, hml, hown, hts⟩ (c_X4_store l C (a 6) 4 arm (fun k => nI (bu b k)) (nI ((bu b arm) + 1)) (by omega) (by decide)) ⟨va_cnB 3 hts gX0_pullOnce_X4_store_n58 rfl rfl rfl (q_nw hK 0 rfl) (hts (.initialized RX4) (by decide +kernel)) (by decide +kernel) ⟨Nat.le_of_ble_eq_true rfl, Nat.le_of_ble_eq_true rfl⟩, hts (.static yX4_store) (by decide +kernel), trivial⟩ hK hP hD hS hA [6] (by decide) rfl rfl hl.1 rfl (Nat.le_of_ble_eq_true rfl) dX0_pullOnce_124 (Nat.zero_le _) (Nat.zero_le _) (fun r w1 H locs hQ hP hD hS => ?_)
    obtain ⟨rfl, rfl⟩ := hQ
    rw [q_upd] at hP hD
    have hP : va_P C.1 vwCl ([(a 0, .inr (0, [.ref (a 1), .ref (a 2), .ref (a 3), .ref (a 4), .ref (a 5), .ref (a 6), .ref (a 7), .int (nI (if othB b arm = true then bx b + 1 else bx b)), .int (nI arm), .long ((br b) + (fdv ((if othB b arm = true then lN (1000 * bg b (4 * arm + bp b arm)) - lN (1000 * bs b 2) else lN (1000 * bg b (4 * arm + bp b arm))) * (lN (bw b))) (lN 1000000))), .long (lN (((bw b) * (bs b 0)) / 100)), .long (bz b)])), (a 1, .inl (C.2.1, 16, .inl (fun k => nI (bg b k)))), (a 2, .inl (C.2.1, 16, .inl (fun k => nI (bo b k)))), (a 3, .inl (C.2.1, 16, .inl (fun k => nI (bb b k)))), (a 4, .inl (C.2.1, 16, .inl (fun k => nI (bc b k)))), (a 5, .inl (C.2.1, 4, .inl (fun k => nI (bp b k)))), (a 6, .inl (C.2.1, 4, .inl (fun k => nI (upN (bu b) arm ((bu b arm) + 1) k)))), (a 7, .inl (C.2.1, 4, .inl (fun k => nI (bs b k))))]) H := hP
    have hD : va_D (q_A (wB C a b) s) ([(a 0, .inr (0, [.ref (a 1), .ref (a 2), .ref (a 3), .ref (a 4), .ref (a 5), .ref (a 6), .ref (a 7), .int (nI (if othB b arm = true then bx b + 1 else bx b)), .int (nI arm), .long ((br b) + (fdv ((if othB b arm = true then lN (1000 * bg b (4 * arm + bp b arm)) - lN (1000 * bs b 2) else lN (1000 * bg b (4 * arm + bp b arm))) * (lN (bw b))) (lN 1000000))), .long (lN (((bw b) * (bs b 0)) / 100)), .long (bz b)])), (a 1, .inl (C.2.1, 16, .inl (fun k => nI (bg b k)))), (a 2, .inl (C.2.1, 16, .inl (fun k => nI (bo b k)))), (a 3, .inl (C.2.1, 16, .inl (fun k => nI (bb b k)))), (a 4, .inl (C.2.1, 16, .inl (fun k => nI (bc b k)))), (a 5, .inl (C.2.1, 4, .inl (fun k => nI (bp b k)))), (a 6, .inl (C.2.1, 4, .inl (fun k => nI (upN (bu b) arm ((bu b arm) + 1) k)))), (a 7, .inl (C.2.1, 4, .inl (fun k => nI (bs b k))))]) := hD
    refine W.eq (g2 := F0 m 127 ls []) rfl ?_
    rw [← nI_pred arm] at hP hD
    have hP : va_P C.1 vwCl (wB C a (pul0 b arm)) H := hP
    have hD : va_D (q_A (wB C a b) s) (wB C a (pul0 b arm)) := hD
    refine lv_aload_n hx hb dX0_pullOnce_127 rfl (lv_at hl 1 rfl) ?_
    refine lv_iload_n hx hb dX0_pullOnce_128 rfl (lv_at hl 2 rfl) ?_
    refine q_V (As := [.int (nI arm)]) (rest := []) ⟨hx, hb, hml, hown, hts⟩ (c_X0_goOn l C a (pul0 b arm) arm hB1 (by omega)) (cwV 1 hts gX0_pullOnce_X0_goOn rfl rfl rfl (by decide +kernel) ⟨Nat.le_of_ble_eq_true rfl, Nat.le_of_ble_eq_true rfl⟩) hK hP hD hS hA [0, 1, 2, 3, 4, 5, 6, 7] (by decide) rfl 0 rfl rfl rfl rfl hl.1 rfl (Nat.le_of_ble_eq_true rfl) dX0_pullOnce_129 (Nat.zero_le _) (Nat.zero_le _) (fun r w1 H locs hQ hP hD hS => ?_)
    obtain ⟨rfl, rfl⟩ := hQ
    have hP : va_P C.1 vwCl (wB C a (goB (pul0 b arm) arm)) H := hP
    have hD : va_D (q_A (wB C a b) s) (wB C a (goB (pul0 b arm) arm)) := hD
    refine W.eq (g2 := F0 m 132 ls []) rfl ?_
    refine lv_aload_n hx hb dX0_pullOnce_132 rfl (lv_at hl 1 rfl) ?_
    refine va_get (ci := 0) (v := .ref (a 7)) (C := RX0) (T := TX0) (N := 12) hx hb hts hin0 hown hK.1 hP 0 rfl rfl 6 (by decide) hf30 (fun _ h9 => h9) rfl dX0_pullOnce_133 ?_
    refine lv_iconst (v := nI 3) hx hb dX0_pullOnce_136 (by decide) ?_
    refine q_N (As := [.ref (a 7), .int (nI 3)]) (rest := []) ⟨hx, hb, hml, hown, hts⟩ (c_X4_at l C (a 7) 4 3 (fun k => nI (bs (goB (pul0 b arm) arm) k)) (by decide) (by decide)) ⟨va_cnB 2 hts gX0_pullOnce_X4_at_n62 rfl rfl rfl (q_nw hK 1 rfl) (hts (.initialized RX4) (by decide +kernel)) (by decide +kernel) ⟨Nat.le_of_ble_eq_true rfl, Nat.le_of_ble_eq_true rfl⟩, hts (.static yX4_at) (by decide +kernel), trivial⟩ hK hP hD hS hA [7] (by decide) rfl rfl hl.1 rfl (Nat.le_of_ble_eq_true rfl) dX0_pullOnce_137 (Nat.zero_le _) (Nat.zero_le _) (fun r w1 H locs hQ hP hD hS => ?_)
    obtain ⟨rfl, rfl⟩ := hQ
    have hP : va_P C.1 vwCl (wB C a (goB (pul0 b arm) arm)) H := hP
    have hD : va_D (q_A (wB C a b) s) (wB C a (goB (pul0 b arm) arm)) := hD
    refine W.eq (g2 := F0 m 140 ls [.int (nI (bs (goB (pul0 b arm) arm) 3))]) rfl ?_
    refine lv_iconst (v := nI 1) hx hb dX0_pullOnce_140 (by decide) ?_
    refine lv_icmp_ne (tgt := 171) hx hb dX0_pullOnce_141 (by decide) (fun c141 => ?_) (fun c141 => ?_)
    · have c141 : (bs (goB (pul0 b arm) arm) 3) ≠ 1 := q_nne (by omega) (by omega) c141
      exact q_vret hx hb hr hlocks (w1 := wB C a (goB (pul0 b arm) arm)) hP hS rfl dX0_pullOnce_171 (⟨rfl, congrArg (wB C a) (by rw [pulB, if_neg (show ¬ bs b 3 = 1 from c141)])⟩)
    · have c141 : (bs (goB (pul0 b arm) arm) 3) = 1 := q_nne' (by omega) (by omega) c141
      refine lv_iconst (v := nI 0) hx hb dX0_pullOnce_144 (by decide) ?_
      refine lv_istore (lv' := [(4, .int (nI 0)), (2, .long (if othB b arm = true then lN (1000 * bg b (4 * arm + bp b arm)) - lN (1000 * bs b 2) else lN (1000 * bg b (4 * arm + bp b arm)))), (0, .ref (a 0)), (1, .int (nI arm))]) hx hb dX0_pullOnce_145 hl (by decide) rfl (fun ls hl => ?_)
      have K147 : ∀ (n147 i147 : Nat), i147 ≤ 4 → 4 + 1 ≤ i147 + n147 → ∀ (H : Heap) (locs : List Loc) (ls : Array Slot), va_P C.1 vwCl (wB C a (restN (goB (pul0 b arm) arm) arm i147)) H → va_D (q_A (wB C a b) s) (wB C a (restN (goB (pul0 b arm) arm) arm i147)) → va_S (q_A (wB C a b) s) s.heap H locs → lv_has ls 5 [(4, .int (nI i147)), (0, .ref (a 0)), (1, .int (nI arm))] → W p l e (q_R 2 45) s m ([.ref (a 0), .int (nI arm)] : List Value).toArray below meth c H locs 0 0 (q_G C below (wB C a b) (fun r w => r = none ∧ w = wB C a (pulB b arm)) ([.ref (a 0), .int (nI arm)] : List Value).toArray s) (F0 m 147 ls []) := by
        intro n147
        induction n147 with
        | zero => intro i147  q1 q2; exact absurd q2 (by omega)
        | succ n147 ih147 =>
          intro i147  hi147 hn147  H locs ls hP hD hS hl
          refine lv_iload hx hb dX0_pullOnce_147 (lv_at hl 0 rfl) ?_
          refine lv_iconst (v := nI 4) hx hb dX0_pullOnce_149 (by decide) ?_
          refine lv_icmp_ge (tgt := 171) hx hb dX0_pullOnce_150 (by decide) (fun c150 => ?_) (fun c150 => ?_)
          · have c150 : 4 ≤ i147 := q_nge (by omega) (by omega) c150
            exact q_vret hx hb hr hlocks (w1 := wB C a (restN (goB (pul0 b arm) arm) arm i147)) hP hS rfl dX0_pullOnce_171 (⟨rfl, congrArg (wB C a) (by rw [pulB, if_pos (show bs b 3 = 1 from c141), show i147 = 4 by omega])⟩)
          · have c150 : i147 < 4 := q_nge' (by omega) (by omega) c150
            refine lv_iload hx hb dX0_pullOnce_153 (lv_at hl 0 rfl) ?_
            refine lv_iload_n hx hb dX0_pullOnce_155 rfl (lv_at hl 2 rfl) ?_
            refine lv_icmp_eq (tgt := 165) hx hb dX0_pullOnce_156 (by decide) (fun c156 => ?_) (fun c156 => ?_)
            · have c156 : i147 = arm := q_neq (by omega) (by omega) c156
              rw [← restN_0 c156] at hP hD
              have hP : va_P C.1 vwCl (wB C a (restN (goB (pul0 b arm) arm) arm (i147 + 1))) H := hP
              have hD : va_D (q_A (wB C a b) s) (wB C a (restN (goB (pul0 b arm) arm) arm (i147 + 1))) := hD
              refine lv_iinc (v := nI (i147 + 1)) (lv' := [(4, .int (nI (i147 + 1))), (0, .ref (a 0)), (1, .int (nI arm))]) hx hb dX0_pullOnce_165 hl (k := 0) rfl (nI_1 _) (by decide) rfl (fun ls hl => ?_)
              refine lv_goto (tgt := 147) hx hb dX0_pullOnce_168 (by decide) ?_
              exact ih147 (i147 + 1)  (by omega) (by omega)  _ _ ls hP hD hS (lv_sub hl [0, 1, 2] rfl)
            · have c156 : i147 ≠ arm := q_neq' (by omega) (by omega) c156
              refine lv_aload_n hx hb dX0_pullOnce_159 rfl (lv_at hl 1 rfl) ?_
              refine lv_iload hx hb dX0_pullOnce_160 (lv_at hl 0 rfl) ?_
              refine q_V (As := [.int (nI i147)]) (rest := []) ⟨hx, hb, hml, hown, hts⟩ (c_X0_goOn l C a (restN (goB (pul0 b arm) arm) arm i147) i147 (okB_restN hB2 arm i147 (by omega)) (by omega)) (cwV 1 hts gX0_pullOnce_X0_goOn rfl rfl rfl (by decide +kernel) ⟨Nat.le_of_ble_eq_true rfl, Nat.le_of_ble_eq_true rfl⟩) hK hP hD hS hA [0, 1, 2, 3, 4, 5, 6, 7] (by decide) rfl 0 rfl rfl rfl rfl hl.1 rfl (Nat.le_of_ble_eq_true rfl) dX0_pullOnce_162 (Nat.zero_le _) (Nat.zero_le _) (fun r w1 H locs hQ hP hD hS => ?_)
              obtain ⟨rfl, rfl⟩ := hQ
              have hP : va_P C.1 vwCl (wB C a (goB (restN (goB (pul0 b arm) arm) arm i147) i147)) H := hP
              have hD : va_D (q_A (wB C a b) s) (wB C a (goB (restN (goB (pul0 b arm) arm) arm i147) i147)) := hD
              refine W.eq (g2 := F0 m 165 ls []) rfl ?_
              rw [← restN_1 c156] at hP hD
              have hP : va_P C.1 vwCl (wB C a (restN (goB (pul0 b arm) arm) arm (i147 + 1))) H := hP
              have hD : va_D (q_A (wB C a b) s) (wB C a (restN (goB (pul0 b arm) arm) arm (i147 + 1))) := hD
              refine lv_iinc (v := nI (i147 + 1)) (lv' := [(4, .int (nI (i147 + 1))), (0, .ref (a 0)), (1, .int (nI arm))]) hx hb dX0_pullOnce_165 hl (k := 0) rfl (nI_1 _) (by decide) rfl (fun ls hl => ?_)
              refine lv_goto (tgt := 147) hx hb dX0_pullOnce_168 (by decide) ?_
              exact ih147 (i147 + 1)  (by omega) (by omega)  _ _ ls hP hD hS (lv_sub hl [0, 1, 2] rfl)
      exact K147 (4 + 1 - 0) 0  (by omega) (by omega)  _ _ ls hP hD hS (lv_sub hl [0, 2, 3] rfl)
  refine lv_if_eq (tgt := 59) hx hb dX0_pullOnce_30 (by decide) (fun c30 => ?_) (fun c30 => ?_)
  · have c30 : othB b arm = false := q_b0.mp c30
    exact J59 _ _ ls (by rw [c30]; exact hP) (by rw [c30]; exact hD) hS (by rw [c30]; exact (lv_sub hl [0, 1, 2] rfl))
  · have c30 : othB b arm = true := q_b1.mp c30
    refine lv_lload_n hx hb dX0_pullOnce_33 rfl (lv_at hl 0 rfl) ?_
    refine lv_ldc2 hx hb hown hk72 dX0_pullOnce_34 ?_
    refine q_tl (y := lN 1000) (by decide) ?_
    refine lv_aload_n hx hb dX0_pullOnce_37 rfl (lv_at hl 1 rfl) ?_
    refine va_get (ci := 0) (v := .ref (a 7)) (C := RX0) (T := TX0) (N := 12) hx hb hts hin0 hown hK.1 hP 0 rfl rfl 6 (by decide) hf30 (fun _ h9 => h9) rfl dX0_pullOnce_38 ?_
    refine lv_iconst (v := nI 2) hx hb dX0_pullOnce_41 (by decide) ?_
    refine q_N (As := [.ref (a 7), .int (nI 2)]) (rest := [.long (lN 1000), .long (lN (1000 * (bg b (4 * arm + (bp b arm)))))]) ⟨hx, hb, hml, hown, hts⟩ (c_X4_at l C (a 7) 4 2 (fun k => nI (bs b k)) (by decide) (by decide)) ⟨va_cnB 2 hts gX0_pullOnce_X4_at_n62 rfl rfl rfl (q_nw hK 1 rfl) (hts (.initialized RX4) (by decide +kernel)) (by decide +kernel) ⟨Nat.le_of_ble_eq_true rfl, Nat.le_of_ble_eq_true rfl⟩, hts (.static yX4_at) (by decide +kernel), trivial⟩ hK hP hD hS hA [7] (by decide) rfl rfl hl.1 rfl (Nat.le_of_ble_eq_true rfl) dX0_pullOnce_42 (Nat.zero_le _) (Nat.zero_le _) (fun r w1 H locs hQ hP hD hS => ?_)
    obtain ⟨rfl, rfl⟩ := hQ
    have hP : va_P C.1 vwCl (wB C a b) H := hP
    have hD : va_D (q_A (wB C a b) s) (wB C a b) := hD
    refine W.eq (g2 := F0 m 45 ls [.int (nI (bs b 2)), .long (lN 1000), .long (lN (1000 * (bg b (4 * arm + (bp b arm)))))]) rfl ?_
    refine lv_i2l (v := lN (bs b 2)) hx hb dX0_pullOnce_45 (nI_l (by omega)) ?_
    refine lv_lmul hx hb dX0_pullOnce_46 ?_
    refine q_tl (y := lN (1000 * (bs b 2))) (lN_mul _ _) ?_
    refine lv_lsub hx hb dX0_pullOnce_47 ?_
    refine lv_lstore_n (lv' := [(2, .long ((lN (1000 * (bg b (4 * arm + (bp b arm))))) - (lN (1000 * (bs b 2))))), (0, .ref (a 0)), (1, .int (nI arm))]) hx hb dX0_pullOnce_48 rfl hl (by decide) rfl (fun ls hl => ?_)
    refine lv_aload_n hx hb dX0_pullOnce_49 rfl (lv_at hl 1 rfl) ?_
    refine lv_dup hx hb dX0_pullOnce_50 rfl ?_
    refine va_get (ci := 0) (v := .int (nI (bx b))) (C := RX0) (T := TX0) (N := 12) hx hb hts hin0 hown hK.1 hP 0 rfl rfl 7 (by decide) hf52 (fun _ h9 => h9) rfl dX0_pullOnce_51 ?_
    refine lv_iconst (v := nI 1) hx hb dX0_pullOnce_54 (by decide) ?_
    refine lv_iadd hx hb dX0_pullOnce_55 ?_
    refine q_ti (y := nI ((bx b) + 1)) (nI_add _ _) ?_
    refine va_put (ci := 0) (v := .int (nI ((bx b) + 1))) (ty := .int) (C := RX0) (T := TX0) (N := 12) hx hb hts hin0 tyX0 tyX0_ok nmX0 hown hK.1 hP hD hS 0 rfl rfl 7 (by decide) hf52 (fun _ h9 => h9) rfl (by decide +kernel) rfl rfl (Nat.le_of_ble_eq_true rfl) dX0_pullOnce_56 (fun H locs hP hD hS => ?_)
    have hP : va_P C.1 vwCl ([(a 0, .inr (0, [.ref (a 1), .ref (a 2), .ref (a 3), .ref (a 4), .ref (a 5), .ref (a 6), .ref (a 7), .int (nI ((bx b) + 1)), .int (nI (bl b) - 1), .long (br b), .long (lN (bw b)), .long (bz b)])), (a 1, .inl (C.2.1, 16, .inl (fun k => nI (bg b k)))), (a 2, .inl (C.2.1, 16, .inl (fun k => nI (bo b k)))), (a 3, .inl (C.2.1, 16, .inl (fun k => nI (bb b k)))), (a 4, .inl (C.2.1, 16, .inl (fun k => nI (bc b k)))), (a 5, .inl (C.2.1, 4, .inl (fun k => nI (bp b k)))), (a 6, .inl (C.2.1, 4, .inl (fun k => nI (bu b k)))), (a 7, .inl (C.2.1, 4, .inl (fun k => nI (bs b k))))]) H := hP
    have hD : va_D (q_A (wB C a b) s) ([(a 0, .inr (0, [.ref (a 1), .ref (a 2), .ref (a 3), .ref (a 4), .ref (a 5), .ref (a 6), .ref (a 7), .int (nI ((bx b) + 1)), .int (nI (bl b) - 1), .long (br b), .long (lN (bw b)), .long (bz b)])), (a 1, .inl (C.2.1, 16, .inl (fun k => nI (bg b k)))), (a 2, .inl (C.2.1, 16, .inl (fun k => nI (bo b k)))), (a 3, .inl (C.2.1, 16, .inl (fun k => nI (bb b k)))), (a 4, .inl (C.2.1, 16, .inl (fun k => nI (bc b k)))), (a 5, .inl (C.2.1, 4, .inl (fun k => nI (bp b k)))), (a 6, .inl (C.2.1, 4, .inl (fun k => nI (bu b k)))), (a 7, .inl (C.2.1, 4, .inl (fun k => nI (bs b k))))]) := hD
    exact J59 _ _ ls (by rw [c30]; exact hP) (by rw [c30]; exact hD) hS (by rw [c30]; exact (lv_sub hl [0, 1, 2] rfl))
end
section
/-! indices as numbers -/
def fillN (g o : Nat → Nat) (i : Nat) : Nat → Nat := fun k => if k < i then g k else o k
theorem fillN_0 (g o : Nat → Nat) : fillN g o 0 = o := by funext k; simp [fillN]
theorem fillN_s (g o : Nat → Nat) (i : Nat) : upN (fillN g o i) i (g i) = fillN g o (i + 1) := by
  funext k
  unfold upN fillN
  by_cases h : k = i
  · subst h; simp
  · rw [if_neg h]
    by_cases h2 : k < i
    · rw [if_pos h2, if_pos (by omega)]
    · rw [if_neg h2, if_neg (by omega)]
theorem fillN_in {g o : Nat → Nat} {i k : Nat} (h : k < i) : fillN g o i k = g k := by simp [fillN, h]
theorem q_r4 {P : Nat → Prop} (h0 : P 0) (h1 : P 1) (h2 : P 2) (h3 : P 3) : ∀ k, k < 4 → P k := fun k hk => co_4 h0 h1 h2 h3 hk
def expN (b : Bd) (v : Nat → Nat) (k : Nat) : Nat := (bc b k * v (bo b k) + (8 - bc b k) * v (bb b k)) / 8
def ownN (b : Bd) (arm : Nat) (v : Nat → Nat) (t : Nat) : Nat := 1000 * bg b (4 * arm + t) + bs b 0 * expN b v (4 * arm + t) / 100
def rndN (b : Bd) (arm h : Nat) (v : Nat → Nat) : Nat → Nat := fun t => max (ownN b arm v t) (ownN b arm v h)
def valsN (b : Bd) (arm h : Nat) : Nat → Nat → Nat
  | 0 => fun _ => 0
  | i + 1 => rndN b arm h (valsN b arm h i)
def ownsN (b : Bd) (arm h : Nat) (o : Nat → Nat) : Nat → Nat → Nat
  | 0 => o
  | i + 1 => ownN b arm (valsN b arm h i)
def ixN (b : Bd) (h : Nat) (v : Nat → Nat) : Nat := (100 - bs b 0) * v h / 100
def idxN (b : Bd) (arm h : Nat) : Nat := ixN b h (valsN b arm h (bs b 1))
def idxT (b : Bd) : Nat → Nat := fun k => idxN b (k / 4) (k % 4)
theorem expN_le {b : Bd} (hB : OkB b) {v : Nat → Nat} {M k : Nat} (hk : k < 16) (hv : ∀ j, j < 4 → v j ≤ M) : bc b k * v (bo b k) ≤ bc b k * M ∧ (8 - bc b k) * v (bb b k) ≤ (8 - bc b k) * M ∧ bc b k * v (bo b k) + (8 - bc b k) * v (bb b k) ≤ 8 * M ∧ expN b v k ≤ M := by
  obtain ⟨h1, h2, h3, h4⟩ := hB.1 k hk
  have e1 : bc b k * v (bo b k) ≤ bc b k * M := Nat.mul_le_mul_left _ (hv _ h2)
  have e2 : (8 - bc b k) * v (bb b k) ≤ (8 - bc b k) * M := Nat.mul_le_mul_left _ (hv _ h3)
  have e3 : bc b k * M + (8 - bc b k) * M = 8 * M := by rw [← Nat.add_mul]; congr 1; omega
  refine ⟨e1, e2, by omega, ?_⟩
  unfold expN
  omega
theorem ownN_le {b : Bd} (hB : OkB b) {arm : Nat} (ha : arm < 4) {v : Nat → Nat} {M t : Nat} (ht : t < 4) (hv : ∀ j, j < 4 → v j ≤ M) : ownN b arm v t ≤ 99000 + M := by
  have h1 := (hB.1 (4 * arm + t) (by omega)).1
  have h2 := (expN_le hB (k := 4 * arm + t) (by omega) hv).2.2.2
  have h3 : bs b 0 * expN b v (4 * arm + t) ≤ 99 * M := Nat.mul_le_mul hB.2.2.1.1 h2
  unfold ownN
  omega
theorem valsN_le {b : Bd} (hB : OkB b) {arm h : Nat} (ha : arm < 4) (hh : h < 4) : ∀ (i k : Nat), k < 4 → valsN b arm h i k ≤ 99000 * i
  | 0, k, _ => Nat.le_refl _
  | i + 1, k, hk => by
    have e := fun j hj => valsN_le hB ha hh i j hj
    have h1 := ownN_le hB ha hk e
    have h2 := ownN_le hB ha hh e
    show max _ _ ≤ _
    rw [Nat.max_le]
    omega
theorem valsN_6M {b : Bd} (hB : OkB b) {arm h : Nat} (ha : arm < 4) (hh : h < 4) {i : Nat} (hi : i ≤ 60) : ∀ k, k < 4 → valsN b arm h i k ≤ 6000000 := fun k hk => by
  have := valsN_le hB ha hh i k hk
  omega
theorem ixN_le {b : Bd} {h M : Nat} {v : Nat → Nat} (hv : v h ≤ M) : (100 - bs b 0) * v h ≤ 100 * M ∧ ixN b h v ≤ M := by
  have h1 : (100 - bs b 0) * v h ≤ 100 * M := Nat.mul_le_mul (by omega) hv
  refine ⟨h1, ?_⟩
  unfold ixN
  omega
theorem idxN_le {b : Bd} (hB : OkB b) {arm h : Nat} (ha : arm < 4) (hh : h < 4) : idxN b arm h ≤ 6000000 :=
  (ixN_le (valsN_6M hB ha hh hB.2.2.1.2.2.1 h hh)).2
/-- the first k, from k on, behind which the index is d, at most f further -/
def lrN (b : Bd) (arm h d : Nat) : Nat → Nat → Nat
  | 0, k => k
  | f + 1, k => if ixN b h (valsN b arm h k) = d then k else lrN b arm h d f (k + 1)
def leastN (b : Bd) (arm h d : Nat) : Nat := lrN b arm h d (bs b 1 - 1) 1
theorem lrN_in {b : Bd} {arm h d : Nat} : ∀ (f k : Nat), k ≤ lrN b arm h d f k ∧ lrN b arm h d f k ≤ k + f
  | 0, k => ⟨Nat.le_refl _, Nat.le_refl _⟩
  | f + 1, k => by
    have := lrN_in (b := b) (arm := arm) (h := h) (d := d) f (k + 1)
    unfold lrN
    split
    · omega
    · omega
abbrev wX (C : q_C) (q : Nat → Nat) (t f v o : Nat → Nat) : va_W := [(q 0, .inr (2, [.ref (q 1), .ref (q 2), .ref (q 3), .ref (q 4)])), (q 1, .inl (C.2.2.1, 16, .inr (.inl (fun k => lN (t k))))), (q 2, .inl (C.2.2.2.1, 4, .inl (fun k => nI (f k)))), (q 3, .inl (C.2.2.1, 4, .inr (.inl (fun k => lN (v k))))), (q 4, .inl (C.2.2.1, 4, .inr (.inl (fun k => lN (o k)))))]
theorem lrN_hit {b : Bd} {arm h d f k r : Nat} (e : lrN b arm h d f k = r) (hd : ixN b h (valsN b arm h k) = d) : k = r := by
  cases f with
  | zero => exact e
  | succ f => rw [lrN, if_pos hd] at e; exact e
theorem lrN_s {b : Bd} {arm h d f k r : Nat} (e : lrN b arm h d f k = r) (hf : 0 < f) (hd : ixN b h (valsN b arm h k) ≠ d) : lrN b arm h d (f - 1) (k + 1) = r := by
  cases f with
  | zero => omega
  | succ f => rw [lrN, if_neg hd] at e; exact e
theorem lrN_end {b : Bd} {arm h d f k r : Nat} (e : lrN b arm h d f k = r) (hf : f = 0) : k = r := by
  subst hf
  exact e
end
section
/-! indices: the methods -/
set_option maxHeartbeats 4000000 in
set_option maxRecDepth 100000 in
theorem c_X2_clearValues (l : Launch) (C : q_C) (q : Nat → Nat) (t f v o : Nat → Nat) : q_M C l yX2_clearValues wsX2_clearValues 0 0 [.ref (q 0)] (wX C q t f v o) (fun r w => r = none ∧ w = wX C q t f (fun _ => 0) o) := by
  refine q_head (cc := cX2_clearValues) (maxL := 2) (ret := none) (by decide +kernel) rfl (Nat.le_of_ble_eq_true rfl) ?_
  intro p e s m below meth c hx hb hr hlocks hml hown hts hK hP hD hS hA ls hl
  have hl : lv_has ls 2 [(0, .ref (q 0))] := hl
  have hf19 := hts (.fieldLink RX2 19 "RestedArms$Indices" "values" "[J") (by decide +kernel)
  have hin2 : ∀ w ∈ u_ws RX2 TX2 4, w ∈ wsX2_clearValues := by decide +kernel
  refine lv_iconst (v := nI 0) hx hb dX2_clearValues_0 (by decide) ?_
  refine lv_istore_n (lv' := [(1, .int (nI 0)), (0, .ref (q 0))]) hx hb dX2_clearValues_1 rfl hl (by decide) rfl (fun ls hl => ?_)
  refine lv_iload_n hx hb dX2_clearValues_2 rfl (lv_at hl 0 rfl) ?_
  refine lv_aload_n hx hb dX2_clearValues_3 rfl (lv_at hl 1 rfl) ?_
  refine va_get (ci := 2) (v := .ref (q 3)) (C := RX2) (T := TX2) (N := 4) hx hb hts hin2 hown hK.1 hP 0 rfl rfl 2 (by decide) hf19 (fun _ h9 => h9) rfl dX2_clearValues_4 ?_
  refine va_alen hx hb hK.1 hP 3 1 rfl rfl (v := nI 4) rfl dX2_clearValues_7 ?_
  refine lv_icmp_ge (tgt := 24) hx hb dX2_clearValues_8 (by decide) (fun c => absurd c (by decide)) (fun _ => ?_)
  refine lv_aload_n hx hb dX2_clearValues_11 rfl (lv_at hl 1 rfl) ?_
  refine va_get (ci := 2) (v := .ref (q 3)) (C := RX2) (T := TX2) (N := 4) hx hb hts hin2 hown hK.1 hP 0 rfl rfl 2 (by decide) hf19 (fun _ h9 => h9) rfl dX2_clearValues_12 ?_
  refine lv_iload_n hx hb dX2_clearValues_15 rfl (lv_at hl 0 rfl) ?_
  refine lv_lconst (v := lN 0) hx hb dX2_clearValues_16 (by decide) ?_
  refine q_last (n := 0) hx hb hK hP hD hS 3 rfl (by decide) (by decide) dX2_clearValues_17 (fun H locs hP hD hS => ?_)
  rw [q_updL] at hP hD
  have hP : va_P C.1 vwCl ([(q 0, .inr (2, [.ref (q 1), .ref (q 2), .ref (q 3), .ref (q 4)])), (q 1, .inl (C.2.2.1, 16, .inr (.inl (fun k => lN (t k))))), (q 2, .inl (C.2.2.2.1, 4, .inl (fun k => nI (f k)))), (q 3, .inl (C.2.2.1, 4, .inr (.inl (fun k => lN (upN v 0 0 k))))), (q 4, .inl (C.2.2.1, 4, .inr (.inl (fun k => lN (o k)))))]) H := hP
  have hD : va_D (q_A (wX C q t f v o) s) ([(q 0, .inr (2, [.ref (q 1), .ref (q 2), .ref (q 3), .ref (q 4)])), (q 1, .inl (C.2.2.1, 16, .inr (.inl (fun k => lN (t k))))), (q 2, .inl (C.2.2.2.1, 4, .inl (fun k => nI (f k)))), (q 3, .inl (C.2.2.1, 4, .inr (.inl (fun k => lN (upN v 0 0 k))))), (q 4, .inl (C.2.2.1, 4, .inr (.inl (fun k => lN (o k)))))]) := hD
  refine lv_iinc (v := nI 1) (lv' := [(1, .int (nI 1)), (0, .ref (q 0))]) hx hb dX2_clearValues_18 hl (k := 0) rfl (by decide) (by decide) rfl (fun ls hl => ?_)
  refine lv_goto (tgt := 2) hx hb dX2_clearValues_21 (by decide) ?_
  refine lv_iload_n hx hb dX2_clearValues_2 rfl (lv_at hl 0 rfl) ?_
  refine lv_aload_n hx hb dX2_clearValues_3 rfl (lv_at hl 1 rfl) ?_
  refine va_get (ci := 2) (v := .ref (q 3)) (C := RX2) (T := TX2) (N := 4) hx hb hts hin2 hown hK.1 hP 0 rfl rfl 2 (by decide) hf19 (fun _ h9 => h9) rfl dX2_clearValues_4 ?_
  refine va_alen hx hb hK.1 hP 3 1 rfl rfl (v := nI 4) rfl dX2_clearValues_7 ?_
  refine lv_icmp_ge (tgt := 24) hx hb dX2_clearValues_8 (by decide) (fun c => absurd c (by decide)) (fun _ => ?_)
  refine lv_aload_n hx hb dX2_clearValues_11 rfl (lv_at hl 1 rfl) ?_
  refine va_get (ci := 2) (v := .ref (q 3)) (C := RX2) (T := TX2) (N := 4) hx hb hts hin2 hown hK.1 hP 0 rfl rfl 2 (by decide) hf19 (fun _ h9 => h9) rfl dX2_clearValues_12 ?_
  refine lv_iload_n hx hb dX2_clearValues_15 rfl (lv_at hl 0 rfl) ?_
  refine lv_lconst (v := lN 0) hx hb dX2_clearValues_16 (by decide) ?_
  refine q_last (n := 1) hx hb hK hP hD hS 3 rfl (by decide) (by decide) dX2_clearValues_17 (fun H locs hP hD hS => ?_)
  rw [q_updL] at hP hD
  have hP : va_P C.1 vwCl ([(q 0, .inr (2, [.ref (q 1), .ref (q 2), .ref (q 3), .ref (q 4)])), (q 1, .inl (C.2.2.1, 16, .inr (.inl (fun k => lN (t k))))), (q 2, .inl (C.2.2.2.1, 4, .inl (fun k => nI (f k)))), (q 3, .inl (C.2.2.1, 4, .inr (.inl (fun k => lN (upN (upN v 0 0) 1 0 k))))), (q 4, .inl (C.2.2.1, 4, .inr (.inl (fun k => lN (o k)))))]) H := hP
  have hD : va_D (q_A (wX C q t f v o) s) ([(q 0, .inr (2, [.ref (q 1), .ref (q 2), .ref (q 3), .ref (q 4)])), (q 1, .inl (C.2.2.1, 16, .inr (.inl (fun k => lN (t k))))), (q 2, .inl (C.2.2.2.1, 4, .inl (fun k => nI (f k)))), (q 3, .inl (C.2.2.1, 4, .inr (.inl (fun k => lN (upN (upN v 0 0) 1 0 k))))), (q 4, .inl (C.2.2.1, 4, .inr (.inl (fun k => lN (o k)))))]) := hD
  refine lv_iinc (v := nI 2) (lv' := [(1, .int (nI 2)), (0, .ref (q 0))]) hx hb dX2_clearValues_18 hl (k := 0) rfl (by decide) (by decide) rfl (fun ls hl => ?_)
  refine lv_goto (tgt := 2) hx hb dX2_clearValues_21 (by decide) ?_
  refine lv_iload_n hx hb dX2_clearValues_2 rfl (lv_at hl 0 rfl) ?_
  refine lv_aload_n hx hb dX2_clearValues_3 rfl (lv_at hl 1 rfl) ?_
  refine va_get (ci := 2) (v := .ref (q 3)) (C := RX2) (T := TX2) (N := 4) hx hb hts hin2 hown hK.1 hP 0 rfl rfl 2 (by decide) hf19 (fun _ h9 => h9) rfl dX2_clearValues_4 ?_
  refine va_alen hx hb hK.1 hP 3 1 rfl rfl (v := nI 4) rfl dX2_clearValues_7 ?_
  refine lv_icmp_ge (tgt := 24) hx hb dX2_clearValues_8 (by decide) (fun c => absurd c (by decide)) (fun _ => ?_)
  refine lv_aload_n hx hb dX2_clearValues_11 rfl (lv_at hl 1 rfl) ?_
  refine va_get (ci := 2) (v := .ref (q 3)) (C := RX2) (T := TX2) (N := 4) hx hb hts hin2 hown hK.1 hP 0 rfl rfl 2 (by decide) hf19 (fun _ h9 => h9) rfl dX2_clearValues_12 ?_
  refine lv_iload_n hx hb dX2_clearValues_15 rfl (lv_at hl 0 rfl) ?_
  refine lv_lconst (v := lN 0) hx hb dX2_clearValues_16 (by decide) ?_
  refine q_last (n := 2) hx hb hK hP hD hS 3 rfl (by decide) (by decide) dX2_clearValues_17 (fun H locs hP hD hS => ?_)
  rw [q_updL] at hP hD
  have hP : va_P C.1 vwCl ([(q 0, .inr (2, [.ref (q 1), .ref (q 2), .ref (q 3), .ref (q 4)])), (q 1, .inl (C.2.2.1, 16, .inr (.inl (fun k => lN (t k))))), (q 2, .inl (C.2.2.2.1, 4, .inl (fun k => nI (f k)))), (q 3, .inl (C.2.2.1, 4, .inr (.inl (fun k => lN (upN (upN (upN v 0 0) 1 0) 2 0 k))))), (q 4, .inl (C.2.2.1, 4, .inr (.inl (fun k => lN (o k)))))]) H := hP
  have hD : va_D (q_A (wX C q t f v o) s) ([(q 0, .inr (2, [.ref (q 1), .ref (q 2), .ref (q 3), .ref (q 4)])), (q 1, .inl (C.2.2.1, 16, .inr (.inl (fun k => lN (t k))))), (q 2, .inl (C.2.2.2.1, 4, .inl (fun k => nI (f k)))), (q 3, .inl (C.2.2.1, 4, .inr (.inl (fun k => lN (upN (upN (upN v 0 0) 1 0) 2 0 k))))), (q 4, .inl (C.2.2.1, 4, .inr (.inl (fun k => lN (o k)))))]) := hD
  refine lv_iinc (v := nI 3) (lv' := [(1, .int (nI 3)), (0, .ref (q 0))]) hx hb dX2_clearValues_18 hl (k := 0) rfl (by decide) (by decide) rfl (fun ls hl => ?_)
  refine lv_goto (tgt := 2) hx hb dX2_clearValues_21 (by decide) ?_
  refine lv_iload_n hx hb dX2_clearValues_2 rfl (lv_at hl 0 rfl) ?_
  refine lv_aload_n hx hb dX2_clearValues_3 rfl (lv_at hl 1 rfl) ?_
  refine va_get (ci := 2) (v := .ref (q 3)) (C := RX2) (T := TX2) (N := 4) hx hb hts hin2 hown hK.1 hP 0 rfl rfl 2 (by decide) hf19 (fun _ h9 => h9) rfl dX2_clearValues_4 ?_
  refine va_alen hx hb hK.1 hP 3 1 rfl rfl (v := nI 4) rfl dX2_clearValues_7 ?_
  refine lv_icmp_ge (tgt := 24) hx hb dX2_clearValues_8 (by decide) (fun c => absurd c (by decide)) (fun _ => ?_)
  refine lv_aload_n hx hb dX2_clearValues_11 rfl (lv_at hl 1 rfl) ?_
  refine va_get (ci := 2) (v := .ref (q 3)) (C := RX2) (T := TX2) (N := 4) hx hb hts hin2 hown hK.1 hP 0 rfl rfl 2 (by decide) hf19 (fun _ h9 => h9) rfl dX2_clearValues_12 ?_
  refine lv_iload_n hx hb dX2_clearValues_15 rfl (lv_at hl 0 rfl) ?_
  refine lv_lconst (v := lN 0) hx hb dX2_clearValues_16 (by decide) ?_
  refine q_last (n := 3) hx hb hK hP hD hS 3 rfl (by decide) (by decide) dX2_clearValues_17 (fun H locs hP hD hS => ?_)
  rw [q_updL] at hP hD
  have hP : va_P C.1 vwCl ([(q 0, .inr (2, [.ref (q 1), .ref (q 2), .ref (q 3), .ref (q 4)])), (q 1, .inl (C.2.2.1, 16, .inr (.inl (fun k => lN (t k))))), (q 2, .inl (C.2.2.2.1, 4, .inl (fun k => nI (f k)))), (q 3, .inl (C.2.2.1, 4, .inr (.inl (fun k => lN (upN (upN (upN (upN v 0 0) 1 0) 2 0) 3 0 k))))), (q 4, .inl (C.2.2.1, 4, .inr (.inl (fun k => lN (o k)))))]) H := hP
  have hD : va_D (q_A (wX C q t f v o) s) ([(q 0, .inr (2, [.ref (q 1), .ref (q 2), .ref (q 3), .ref (q 4)])), (q 1, .inl (C.2.2.1, 16, .inr (.inl (fun k => lN (t k))))), (q 2, .inl (C.2.2.2.1, 4, .inl (fun k => nI (f k)))), (q 3, .inl (C.2.2.1, 4, .inr (.inl (fun k => lN (upN (upN (upN (upN v 0 0) 1 0) 2 0) 3 0 k))))), (q 4, .inl (C.2.2.1, 4, .inr (.inl (fun k => lN (o k)))))]) := hD
  refine lv_iinc (v := nI 4) (lv' := [(1, .int (nI 4)), (0, .ref (q 0))]) hx hb dX2_clearValues_18 hl (k := 0) rfl (by decide) (by decide) rfl (fun ls hl => ?_)
  refine lv_goto (tgt := 2) hx hb dX2_clearValues_21 (by decide) ?_
  refine lv_iload_n hx hb dX2_clearValues_2 rfl (lv_at hl 0 rfl) ?_
  refine lv_aload_n hx hb dX2_clearValues_3 rfl (lv_at hl 1 rfl) ?_
  refine va_get (ci := 2) (v := .ref (q 3)) (C := RX2) (T := TX2) (N := 4) hx hb hts hin2 hown hK.1 hP 0 rfl rfl 2 (by decide) hf19 (fun _ h9 => h9) rfl dX2_clearValues_4 ?_
  refine va_alen hx hb hK.1 hP 3 1 rfl rfl (v := nI 4) rfl dX2_clearValues_7 ?_
  refine lv_icmp_ge (tgt := 24) hx hb dX2_clearValues_8 (by decide) (fun _ => ?_) (fun c => absurd (by decide) c)
  have hP := q_swpL (g := fun k => lN ((fun _ => 0) k)) hP 3 rfl (q_r4 rfl rfl rfl rfl)
  have hD := hD.set (p := 3) (a := q 3) (e := .inl (C.2.2.1, 4, .inr (.inl (fun k => lN ((fun _ => 0) k))))) rfl
  have hP : va_P C.1 vwCl ([(q 0, .inr (2, [.ref (q 1), .ref (q 2), .ref (q 3), .ref (q 4)])), (q 1, .inl (C.2.2.1, 16, .inr (.inl (fun k => lN (t k))))), (q 2, .inl (C.2.2.2.1, 4, .inl (fun k => nI (f k)))), (q 3, .inl (C.2.2.1, 4, .inr (.inl (fun k => lN ((fun _ => 0) k))))), (q 4, .inl (C.2.2.1, 4, .inr (.inl (fun k => lN (o k)))))]) H := hP
  have hD : va_D (q_A (wX C q t f v o) s) ([(q 0, .inr (2, [.ref (q 1), .ref (q 2), .ref (q 3), .ref (q 4)])), (q 1, .inl (C.2.2.1, 16, .inr (.inl (fun k => lN (t k))))), (q 2, .inl (C.2.2.2.1, 4, .inl (fun k => nI (f k)))), (q 3, .inl (C.2.2.1, 4, .inr (.inl (fun k => lN ((fun _ => 0) k))))), (q 4, .inl (C.2.2.1, 4, .inr (.inl (fun k => lN (o k)))))]) := hD
  have hP : va_P C.1 vwCl (wX C q t f (fun _ => 0) o) H := hP
  have hD : va_D (q_A (wX C q t f v o) s) (wX C q t f (fun _ => 0) o) := hD
  exact q_vret hx hb hr hlocks (w1 := wX C q t f (fun _ => 0) o) hP hS rfl dX2_clearValues_24 (⟨rfl, rfl⟩)
set_option maxHeartbeats 4000000 in
set_option maxRecDepth 100000 in
theorem c_X2_forgetAll (l : Launch) (C : q_C) (q : Nat → Nat) (t f v o : Nat → Nat) : q_M C l yX2_forgetAll wsX2_forgetAll 0 0 [.ref (q 0)] (wX C q t f v o) (fun r w => r = none ∧ w = wX C q t (upN (upN (upN (upN f 0 0) 1 0) 2 0) 3 0) v o) := by
  refine q_head (cc := cX2_forgetAll) (maxL := 2) (ret := none) (by decide +kernel) rfl (Nat.le_of_ble_eq_true rfl) ?_
  intro p e s m below meth c hx hb hr hlocks hml hown hts hK hP hD hS hA ls hl
  have hl : lv_has ls 2 [(0, .ref (q 0))] := hl
  have hf15 := hts (.fieldLink RX2 15 "RestedArms$Indices" "fresh" "[Z") (by decide +kernel)
  have hin2 : ∀ w ∈ u_ws RX2 TX2 4, w ∈ wsX2_forgetAll := by decide +kernel
  refine lv_iconst (v := nI 0) hx hb dX2_forgetAll_0 (by decide) ?_
  refine lv_istore_n (lv' := [(1, .int (nI 0)), (0, .ref (q 0))]) hx hb dX2_forgetAll_1 rfl hl (by decide) rfl (fun ls hl => ?_)
  refine lv_iload_n hx hb dX2_forgetAll_2 rfl (lv_at hl 0 rfl) ?_
  refine lv_aload_n hx hb dX2_forgetAll_3 rfl (lv_at hl 1 rfl) ?_
  refine va_get (ci := 2) (v := .ref (q 2)) (C := RX2) (T := TX2) (N := 4) hx hb hts hin2 hown hK.1 hP 0 rfl rfl 1 (by decide) hf15 (fun _ h9 => h9) rfl dX2_forgetAll_4 ?_
  refine va_alen hx hb hK.1 hP 2 2 rfl rfl (v := nI 4) rfl dX2_forgetAll_7 ?_
  refine lv_icmp_ge (tgt := 24) hx hb dX2_forgetAll_8 (by decide) (fun c => absurd c (by decide)) (fun _ => ?_)
  refine lv_aload_n hx hb dX2_forgetAll_11 rfl (lv_at hl 1 rfl) ?_
  refine va_get (ci := 2) (v := .ref (q 2)) (C := RX2) (T := TX2) (N := 4) hx hb hts hin2 hown hK.1 hP 0 rfl rfl 1 (by decide) hf15 (fun _ h9 => h9) rfl dX2_forgetAll_12 ?_
  refine lv_iload_n hx hb dX2_forgetAll_15 rfl (lv_at hl 0 rfl) ?_
  refine lv_iconst (v := nI 0) hx hb dX2_forgetAll_16 (by decide) ?_
  refine q_zast (n := 0) hx hb hK hP hD hS 2 rfl (by decide) (by decide) (by decide) dX2_forgetAll_17 (fun H locs hP hD hS => ?_)
  rw [q_upd] at hP hD
  have hP : va_P C.1 vwCl ([(q 0, .inr (2, [.ref (q 1), .ref (q 2), .ref (q 3), .ref (q 4)])), (q 1, .inl (C.2.2.1, 16, .inr (.inl (fun k => lN (t k))))), (q 2, .inl (C.2.2.2.1, 4, .inl (fun k => nI (upN f 0 0 k)))), (q 3, .inl (C.2.2.1, 4, .inr (.inl (fun k => lN (v k))))), (q 4, .inl (C.2.2.1, 4, .inr (.inl (fun k => lN (o k)))))]) H := hP
  have hD : va_D (q_A (wX C q t f v o) s) ([(q 0, .inr (2, [.ref (q 1), .ref (q 2), .ref (q 3), .ref (q 4)])), (q 1, .inl (C.2.2.1, 16, .inr (.inl (fun k => lN (t k))))), (q 2, .inl (C.2.2.2.1, 4, .inl (fun k => nI (upN f 0 0 k)))), (q 3, .inl (C.2.2.1, 4, .inr (.inl (fun k => lN (v k))))), (q 4, .inl (C.2.2.1, 4, .inr (.inl (fun k => lN (o k)))))]) := hD
  refine lv_iinc (v := nI 1) (lv' := [(1, .int (nI 1)), (0, .ref (q 0))]) hx hb dX2_forgetAll_18 hl (k := 0) rfl (by decide) (by decide) rfl (fun ls hl => ?_)
  refine lv_goto (tgt := 2) hx hb dX2_forgetAll_21 (by decide) ?_
  refine lv_iload_n hx hb dX2_forgetAll_2 rfl (lv_at hl 0 rfl) ?_
  refine lv_aload_n hx hb dX2_forgetAll_3 rfl (lv_at hl 1 rfl) ?_
  refine va_get (ci := 2) (v := .ref (q 2)) (C := RX2) (T := TX2) (N := 4) hx hb hts hin2 hown hK.1 hP 0 rfl rfl 1 (by decide) hf15 (fun _ h9 => h9) rfl dX2_forgetAll_4 ?_
  refine va_alen hx hb hK.1 hP 2 2 rfl rfl (v := nI 4) rfl dX2_forgetAll_7 ?_
  refine lv_icmp_ge (tgt := 24) hx hb dX2_forgetAll_8 (by decide) (fun c => absurd c (by decide)) (fun _ => ?_)
  refine lv_aload_n hx hb dX2_forgetAll_11 rfl (lv_at hl 1 rfl) ?_
  refine va_get (ci := 2) (v := .ref (q 2)) (C := RX2) (T := TX2) (N := 4) hx hb hts hin2 hown hK.1 hP 0 rfl rfl 1 (by decide) hf15 (fun _ h9 => h9) rfl dX2_forgetAll_12 ?_
  refine lv_iload_n hx hb dX2_forgetAll_15 rfl (lv_at hl 0 rfl) ?_
  refine lv_iconst (v := nI 0) hx hb dX2_forgetAll_16 (by decide) ?_
  refine q_zast (n := 1) hx hb hK hP hD hS 2 rfl (by decide) (by decide) (by decide) dX2_forgetAll_17 (fun H locs hP hD hS => ?_)
  rw [q_upd] at hP hD
  have hP : va_P C.1 vwCl ([(q 0, .inr (2, [.ref (q 1), .ref (q 2), .ref (q 3), .ref (q 4)])), (q 1, .inl (C.2.2.1, 16, .inr (.inl (fun k => lN (t k))))), (q 2, .inl (C.2.2.2.1, 4, .inl (fun k => nI (upN (upN f 0 0) 1 0 k)))), (q 3, .inl (C.2.2.1, 4, .inr (.inl (fun k => lN (v k))))), (q 4, .inl (C.2.2.1, 4, .inr (.inl (fun k => lN (o k)))))]) H := hP
  have hD : va_D (q_A (wX C q t f v o) s) ([(q 0, .inr (2, [.ref (q 1), .ref (q 2), .ref (q 3), .ref (q 4)])), (q 1, .inl (C.2.2.1, 16, .inr (.inl (fun k => lN (t k))))), (q 2, .inl (C.2.2.2.1, 4, .inl (fun k => nI (upN (upN f 0 0) 1 0 k)))), (q 3, .inl (C.2.2.1, 4, .inr (.inl (fun k => lN (v k))))), (q 4, .inl (C.2.2.1, 4, .inr (.inl (fun k => lN (o k)))))]) := hD
  refine lv_iinc (v := nI 2) (lv' := [(1, .int (nI 2)), (0, .ref (q 0))]) hx hb dX2_forgetAll_18 hl (k := 0) rfl (by decide) (by decide) rfl (fun ls hl => ?_)
  refine lv_goto (tgt := 2) hx hb dX2_forgetAll_21 (by decide) ?_
  refine lv_iload_n hx hb dX2_forgetAll_2 rfl (lv_at hl 0 rfl) ?_
  refine lv_aload_n hx hb dX2_forgetAll_3 rfl (lv_at hl 1 rfl) ?_
  refine va_get (ci := 2) (v := .ref (q 2)) (C := RX2) (T := TX2) (N := 4) hx hb hts hin2 hown hK.1 hP 0 rfl rfl 1 (by decide) hf15 (fun _ h9 => h9) rfl dX2_forgetAll_4 ?_
  refine va_alen hx hb hK.1 hP 2 2 rfl rfl (v := nI 4) rfl dX2_forgetAll_7 ?_
  refine lv_icmp_ge (tgt := 24) hx hb dX2_forgetAll_8 (by decide) (fun c => absurd c (by decide)) (fun _ => ?_)
  refine lv_aload_n hx hb dX2_forgetAll_11 rfl (lv_at hl 1 rfl) ?_
  refine va_get (ci := 2) (v := .ref (q 2)) (C := RX2) (T := TX2) (N := 4) hx hb hts hin2 hown hK.1 hP 0 rfl rfl 1 (by decide) hf15 (fun _ h9 => h9) rfl dX2_forgetAll_12 ?_
  refine lv_iload_n hx hb dX2_forgetAll_15 rfl (lv_at hl 0 rfl) ?_
  refine lv_iconst (v := nI 0) hx hb dX2_forgetAll_16 (by decide) ?_
  refine q_zast (n := 2) hx hb hK hP hD hS 2 rfl (by decide) (by decide) (by decide) dX2_forgetAll_17 (fun H locs hP hD hS => ?_)
  rw [q_upd] at hP hD
  have hP : va_P C.1 vwCl ([(q 0, .inr (2, [.ref (q 1), .ref (q 2), .ref (q 3), .ref (q 4)])), (q 1, .inl (C.2.2.1, 16, .inr (.inl (fun k => lN (t k))))), (q 2, .inl (C.2.2.2.1, 4, .inl (fun k => nI (upN (upN (upN f 0 0) 1 0) 2 0 k)))), (q 3, .inl (C.2.2.1, 4, .inr (.inl (fun k => lN (v k))))), (q 4, .inl (C.2.2.1, 4, .inr (.inl (fun k => lN (o k)))))]) H := hP
  have hD : va_D (q_A (wX C q t f v o) s) ([(q 0, .inr (2, [.ref (q 1), .ref (q 2), .ref (q 3), .ref (q 4)])), (q 1, .inl (C.2.2.1, 16, .inr (.inl (fun k => lN (t k))))), (q 2, .inl (C.2.2.2.1, 4, .inl (fun k => nI (upN (upN (upN f 0 0) 1 0) 2 0 k)))), (q 3, .inl (C.2.2.1, 4, .inr (.inl (fun k => lN (v k))))), (q 4, .inl (C.2.2.1, 4, .inr (.inl (fun k => lN (o k)))))]) := hD
  refine lv_iinc (v := nI 3) (lv' := [(1, .int (nI 3)), (0, .ref (q 0))]) hx hb dX2_forgetAll_18 hl (k := 0) rfl (by decide) (by decide) rfl (fun ls hl => ?_)
  refine lv_goto (tgt := 2) hx hb dX2_forgetAll_21 (by decide) ?_
  refine lv_iload_n hx hb dX2_forgetAll_2 rfl (lv_at hl 0 rfl) ?_
  refine lv_aload_n hx hb dX2_forgetAll_3 rfl (lv_at hl 1 rfl) ?_
  refine va_get (ci := 2) (v := .ref (q 2)) (C := RX2) (T := TX2) (N := 4) hx hb hts hin2 hown hK.1 hP 0 rfl rfl 1 (by decide) hf15 (fun _ h9 => h9) rfl dX2_forgetAll_4 ?_
  refine va_alen hx hb hK.1 hP 2 2 rfl rfl (v := nI 4) rfl dX2_forgetAll_7 ?_
  refine lv_icmp_ge (tgt := 24) hx hb dX2_forgetAll_8 (by decide) (fun c => absurd c (by decide)) (fun _ => ?_)
  refine lv_aload_n hx hb dX2_forgetAll_11 rfl (lv_at hl 1 rfl) ?_
  refine va_get (ci := 2) (v := .ref (q 2)) (C := RX2) (T := TX2) (N := 4) hx hb hts hin2 hown hK.1 hP 0 rfl rfl 1 (by decide) hf15 (fun _ h9 => h9) rfl dX2_forgetAll_12 ?_
  refine lv_iload_n hx hb dX2_forgetAll_15 rfl (lv_at hl 0 rfl) ?_
  refine lv_iconst (v := nI 0) hx hb dX2_forgetAll_16 (by decide) ?_
  refine q_zast (n := 3) hx hb hK hP hD hS 2 rfl (by decide) (by decide) (by decide) dX2_forgetAll_17 (fun H locs hP hD hS => ?_)
  rw [q_upd] at hP hD
  have hP : va_P C.1 vwCl ([(q 0, .inr (2, [.ref (q 1), .ref (q 2), .ref (q 3), .ref (q 4)])), (q 1, .inl (C.2.2.1, 16, .inr (.inl (fun k => lN (t k))))), (q 2, .inl (C.2.2.2.1, 4, .inl (fun k => nI (upN (upN (upN (upN f 0 0) 1 0) 2 0) 3 0 k)))), (q 3, .inl (C.2.2.1, 4, .inr (.inl (fun k => lN (v k))))), (q 4, .inl (C.2.2.1, 4, .inr (.inl (fun k => lN (o k)))))]) H := hP
  have hD : va_D (q_A (wX C q t f v o) s) ([(q 0, .inr (2, [.ref (q 1), .ref (q 2), .ref (q 3), .ref (q 4)])), (q 1, .inl (C.2.2.1, 16, .inr (.inl (fun k => lN (t k))))), (q 2, .inl (C.2.2.2.1, 4, .inl (fun k => nI (upN (upN (upN (upN f 0 0) 1 0) 2 0) 3 0 k)))), (q 3, .inl (C.2.2.1, 4, .inr (.inl (fun k => lN (v k))))), (q 4, .inl (C.2.2.1, 4, .inr (.inl (fun k => lN (o k)))))]) := hD
  refine lv_iinc (v := nI 4) (lv' := [(1, .int (nI 4)), (0, .ref (q 0))]) hx hb dX2_forgetAll_18 hl (k := 0) rfl (by decide) (by decide) rfl (fun ls hl => ?_)
  refine lv_goto (tgt := 2) hx hb dX2_forgetAll_21 (by decide) ?_
  refine lv_iload_n hx hb dX2_forgetAll_2 rfl (lv_at hl 0 rfl) ?_
  refine lv_aload_n hx hb dX2_forgetAll_3 rfl (lv_at hl 1 rfl) ?_
  refine va_get (ci := 2) (v := .ref (q 2)) (C := RX2) (T := TX2) (N := 4) hx hb hts hin2 hown hK.1 hP 0 rfl rfl 1 (by decide) hf15 (fun _ h9 => h9) rfl dX2_forgetAll_4 ?_
  refine va_alen hx hb hK.1 hP 2 2 rfl rfl (v := nI 4) rfl dX2_forgetAll_7 ?_
  refine lv_icmp_ge (tgt := 24) hx hb dX2_forgetAll_8 (by decide) (fun _ => ?_) (fun c => absurd (by decide) c)
  exact q_vret hx hb hr hlocks (w1 := [(q 0, .inr (2, [.ref (q 1), .ref (q 2), .ref (q 3), .ref (q 4)])), (q 1, .inl (C.2.2.1, 16, .inr (.inl (fun k => lN (t k))))), (q 2, .inl (C.2.2.2.1, 4, .inl (fun k => nI (upN (upN (upN (upN f 0 0) 1 0) 2 0) 3 0 k)))), (q 3, .inl (C.2.2.1, 4, .inr (.inl (fun k => lN (v k))))), (q 4, .inl (C.2.2.1, 4, .inr (.inl (fun k => lN (o k)))))]) hP hS rfl dX2_forgetAll_24 (⟨rfl, rfl⟩)
set_option maxHeartbeats 4000000 in
set_option maxRecDepth 100000 in
theorem c_X2_forgetArm (l : Launch) (C : q_C) (q : Nat → Nat) (t f v o : Nat → Nat) (arm : Nat) (ha : arm < 4) : q_M C l yX2_forgetArm wsX2_forgetArm 0 0 [.ref (q 0), .int (nI arm)] (wX C q t f v o) (fun r w => r = none ∧ w = wX C q t (upN f arm 0) v o) := by
  refine q_head (cc := cX2_forgetArm) (maxL := 2) (ret := none) (by decide +kernel) rfl (Nat.le_of_ble_eq_true rfl) ?_
  intro p e s m below meth c hx hb hr hlocks hml hown hts hK hP hD hS hA ls hl
  have hl : lv_has ls 2 [(0, .ref (q 0)), (1, .int (nI arm))] := hl
  have hf15 := hts (.fieldLink RX2 15 "RestedArms$Indices" "fresh" "[Z") (by decide +kernel)
  have hin2 : ∀ w ∈ u_ws RX2 TX2 4, w ∈ wsX2_forgetArm := by decide +kernel
  refine lv_iload_n hx hb dX2_forgetArm_0 rfl (lv_at hl 1 rfl) ?_
  refine lv_if_lt (tgt := 20) hx hb dX2_forgetArm_1 (by decide) (fun c1 => ?_) (fun c1 => ?_)
  · have c1 : arm < 0 := q_nlt0 (by omega) (by omega) c1
    exact absurd c1 (by omega)
  have c1 : 0 ≤ arm := q_nlt0' (by omega) (by omega) c1
  refine lv_iload_n hx hb dX2_forgetArm_4 rfl (lv_at hl 1 rfl) ?_
  refine lv_aload_n hx hb dX2_forgetArm_5 rfl (lv_at hl 0 rfl) ?_
  refine va_get (ci := 2) (v := .ref (q 2)) (C := RX2) (T := TX2) (N := 4) hx hb hts hin2 hown hK.1 hP 0 rfl rfl 1 (by decide) hf15 (fun _ h9 => h9) rfl dX2_forgetArm_6 ?_
  refine va_alen hx hb hK.1 hP 2 2 rfl rfl (v := nI 4) rfl dX2_forgetArm_9 ?_
  refine lv_icmp_ge (tgt := 20) hx hb dX2_forgetArm_10 (by decide) (fun c10 => ?_) (fun c10 => ?_)
  · have c10 : 4 ≤ arm := q_nge (by omega) (by omega) c10
    exact absurd c10 (by omega)
  have c10 : arm < 4 := q_nge' (by omega) (by omega) c10
  refine lv_aload_n hx hb dX2_forgetArm_13 rfl (lv_at hl 0 rfl) ?_
  refine va_get (ci := 2) (v := .ref (q 2)) (C := RX2) (T := TX2) (N := 4) hx hb hts hin2 hown hK.1 hP 0 rfl rfl 1 (by decide) hf15 (fun _ h9 => h9) rfl dX2_forgetArm_14 ?_
  refine lv_iload_n hx hb dX2_forgetArm_17 rfl (lv_at hl 1 rfl) ?_
  refine lv_iconst (v := nI 0) hx hb dX2_forgetArm_18 (by decide) ?_
  refine q_zast (n := arm) hx hb hK hP hD hS 2 rfl (by omega) (by decide) (by decide) dX2_forgetArm_19 (fun H locs hP hD hS => ?_)
  rw [q_upd] at hP hD
  have hP : va_P C.1 vwCl ([(q 0, .inr (2, [.ref (q 1), .ref (q 2), .ref (q 3), .ref (q 4)])), (q 1, .inl (C.2.2.1, 16, .inr (.inl (fun k => lN (t k))))), (q 2, .inl (C.2.2.2.1, 4, .inl (fun k => nI (upN f arm 0 k)))), (q 3, .inl (C.2.2.1, 4, .inr (.inl (fun k => lN (v k))))), (q 4, .inl (C.2.2.1, 4, .inr (.inl (fun k => lN (o k)))))]) H := hP
  have hD : va_D (q_A (wX C q t f v o) s) ([(q 0, .inr (2, [.ref (q 1), .ref (q 2), .ref (q 3), .ref (q 4)])), (q 1, .inl (C.2.2.1, 16, .inr (.inl (fun k => lN (t k))))), (q 2, .inl (C.2.2.2.1, 4, .inl (fun k => nI (upN f arm 0 k)))), (q 3, .inl (C.2.2.1, 4, .inr (.inl (fun k => lN (v k))))), (q 4, .inl (C.2.2.1, 4, .inr (.inl (fun k => lN (o k)))))]) := hD
  exact q_vret hx hb hr hlocks (w1 := [(q 0, .inr (2, [.ref (q 1), .ref (q 2), .ref (q 3), .ref (q 4)])), (q 1, .inl (C.2.2.1, 16, .inr (.inl (fun k => lN (t k))))), (q 2, .inl (C.2.2.2.1, 4, .inl (fun k => nI (upN f arm 0 k)))), (q 3, .inl (C.2.2.1, 4, .inr (.inl (fun k => lN (v k))))), (q 4, .inl (C.2.2.1, 4, .inr (.inl (fun k => lN (o k)))))]) hP hS rfl dX2_forgetArm_20 (⟨rfl, rfl⟩)
set_option maxHeartbeats 4000000 in
set_option maxRecDepth 100000 in
theorem c_X2_turn (l : Launch) (C : q_C) (q : Nat → Nat) (t f v o : Nat → Nat) (a : Nat → Nat) (b : Bd) (arm h : Nat) (hB : OkB b) (ha : arm < 4) (hh : h < 4) (hv : ∀ j, j < 4 → v j ≤ 6000000) : q_M C l yX2_turn wsX2_turn 1 25 [.ref (q 0), .ref (a 0), .int (nI arm), .int (nI h)] (wX C q t f v o ++ wB C a b) (fun r w => r = none ∧ w = wX C q t f (rndN b arm h v) (ownN b arm v) ++ wB C a b) := by
  obtain ⟨ok1, ok2, ⟨ok3, ok4, ok5, ok6, ok7⟩, ok8, ok9⟩ := id hB
  refine q_head (cc := cX2_turn) (maxL := 18) (ret := none) (by decide +kernel) rfl (Nat.le_of_ble_eq_true rfl) ?_
  intro p e s m below meth c hx hb hr hlocks hml hown hts hK hP hD hS hA ls hl
  have hl : lv_has ls 18 [(0, .ref (q 0)), (1, .ref (a 0)), (2, .int (nI arm)), (3, .int (nI h))] := hl
  have hf19 := hts (.fieldLink RX2 19 "RestedArms$Indices" "values" "[J") (by decide +kernel)
  have hf22 := hts (.fieldLink RX2 22 "RestedArms$Indices" "own" "[J") (by decide +kernel)
  have hf37 := hts (.fieldLink RX2 37 "RestedArms$Board" "settings" "[I") (by decide +kernel)
  have hf58 := hts (.fieldLink RX2 58 "RestedArms$Board" "chances" "[I") (by decide +kernel)
  have hf61 := hts (.fieldLink RX2 61 "RestedArms$Board" "goods" "[I") (by decide +kernel)
  have hf67 := hts (.fieldLink RX2 67 "RestedArms$Board" "bads" "[I") (by decide +kernel)
  have hf82 := hts (.fieldLink RX2 82 "RestedArms$Board" "gifts" "[I") (by decide +kernel)
  have hin0 : ∀ w ∈ u_ws RX0 TX0 12, w ∈ wsX2_turn := by decide +kernel
  have hin2 : ∀ w ∈ u_ws RX2 TX2 4, w ∈ wsX2_turn := by decide +kernel
  have hk70 := hts (.constantLong RX2 70 (8)) (by decide +kernel)
  have hk78 := hts (.constantLong RX2 78 (100)) (by decide +kernel)
  have hk80 := hts (.constantLong RX2 80 (1000)) (by decide +kernel)
  have hm1_85 := hts (.methodLink RX2 85 Lib.MathLoose.max_long.x) (by decide +kernel)
  have hm2_85 := hts (.static Lib.MathLoose.max_long.x) (by decide +kernel)
  have hm3_85 := hts (.initialized "java/lang/Math") (by decide +kernel)
  have hm4_85 := hts (.code Lib.MathLoose.max_long.x Lib.MathLoose.max_long.code 4 (some .long)) (by decide +kernel)
  refine lv_aload_n hx hb dX2_turn_0 rfl (lv_at hl 1 rfl) ?_
  refine va_get (ci := 0) (v := .ref (a 7)) (C := RX0) (T := TX0) (N := 12) hx hb hts hin0 hown hK.1 hP 5 rfl rfl 6 (by decide) hf37 (fun _ h9 => h9) rfl dX2_turn_1 ?_
  refine lv_iconst (v := nI 0) hx hb dX2_turn_4 (by decide) ?_
  refine q_N (As := [.ref (a 7), .int (nI 0)]) (rest := []) ⟨hx, hb, hml, hown, hts⟩ (c_X4_at l C (a 7) 4 0 (fun k => nI (bs b k)) (by decide) (by decide)) ⟨va_cnB 2 hts gX2_turn_X4_at_n43 rfl rfl rfl (q_nw hK 5 rfl) (hts (.initialized RX4) (by decide +kernel)) (by decide +kernel) ⟨Nat.le_of_ble_eq_true rfl, Nat.le_of_ble_eq_true rfl⟩, hts (.static yX4_at) (by decide +kernel), trivial⟩ hK hP hD hS hA [12] (by decide) rfl rfl hl.1 rfl (Nat.le_of_ble_eq_true rfl) dX2_turn_5 (Nat.zero_le _) (Nat.zero_le _) (fun r w1 H locs hQ hP hD hS => ?_)
  obtain ⟨rfl, rfl⟩ := hQ
  have hP : va_P C.1 vwCl (wX C q t f v o ++ wB C a b) H := hP
  have hD : va_D (q_A (wX C q t f v o ++ wB C a b) s) (wX C q t f v o ++ wB C a b) := hD
  refine W.eq (g2 := F0 m 8 ls [.int (nI (bs b 0))]) rfl ?_
  refine lv_i2l (v := lN (bs b 0)) hx hb dX2_turn_8 (nI_l (by omega)) ?_
  refine lv_lstore (lv' := [(4, .long (lN (bs b 0))), (0, .ref (q 0)), (1, .ref (a 0)), (2, .int (nI arm)), (3, .int (nI h))]) hx hb dX2_turn_9 hl (by decide) rfl (fun ls hl => ?_)
  refine lv_iconst (v := nI 0) hx hb dX2_turn_11 (by decide) ?_
  refine lv_istore (lv' := [(6, .int (nI 0)), (4, .long (lN (bs b 0))), (0, .ref (q 0)), (1, .ref (a 0)), (2, .int (nI arm)), (3, .int (nI h))]) hx hb dX2_turn_12 hl (by decide) rfl (fun ls hl => ?_)
  have K14 : ∀ (n14 i14 : Nat), i14 ≤ 4 → 4 + 1 ≤ i14 + n14 → ∀ (H : Heap) (locs : List Loc) (ls : Array Slot), va_P C.1 vwCl (wX C q t f v (fillN (ownN b arm v) o i14) ++ wB C a b) H → va_D (q_A (wX C q t f v o ++ wB C a b) s) (wX C q t f v (fillN (ownN b arm v) o i14) ++ wB C a b) → va_S (q_A (wX C q t f v o ++ wB C a b) s) s.heap H locs → lv_has ls 18 [(6, .int (nI i14)), (4, .long (lN (bs b 0))), (0, .ref (q 0)), (1, .ref (a 0)), (2, .int (nI arm)), (3, .int (nI h))] → W p l e (q_R 1 25) s m ([.ref (q 0), .ref (a 0), .int (nI arm), .int (nI h)] : List Value).toArray below meth c H locs 0 0 (q_G C below (wX C q t f v o ++ wB C a b) (fun r w => r = none ∧ w = wX C q t f (rndN b arm h v) (ownN b arm v) ++ wB C a b) ([.ref (q 0), .ref (a 0), .int (nI arm), .int (nI h)] : List Value).toArray s) (F0 m 14 ls []) := by
    intro n14
    induction n14 with
    | zero => intro i14  q1 q2; exact absurd q2 (by omega)
    | succ n14 ih14 =>
      intro i14  hi14 hn14  H locs ls hP hD hS hl
      refine lv_iload hx hb dX2_turn_14 (lv_at hl 0 rfl) ?_
      refine lv_iconst (v := nI 4) hx hb dX2_turn_16 (by decide) ?_
      refine lv_icmp_ge (tgt := 144) hx hb dX2_turn_17 (by decide) (fun c17 => ?_) (fun c17 => ?_)
      · have c17 : 4 ≤ i14 := q_nge (by omega) (by omega) c17
        have e9 : i14 = 4 := by omega
        subst e9
        have hP := q_swpL (g := fun k => lN ((ownN b arm v) k)) hP 4 rfl (fun k hk => congrArg lN (fillN_in hk))
        have hD := hD.set (p := 4) (a := q 4) (e := .inl (C.2.2.1, 4, .inr (.inl (fun k => lN ((ownN b arm v) k))))) rfl
        have hP : va_P C.1 vwCl (([(q 0, .inr (2, [.ref (q 1), .ref (q 2), .ref (q 3), .ref (q 4)])), (q 1, .inl (C.2.2.1, 16, .inr (.inl (fun k => lN (t k))))), (q 2, .inl (C.2.2.2.1, 4, .inl (fun k => nI (f k)))), (q 3, .inl (C.2.2.1, 4, .inr (.inl (fun k => lN (v k))))), (q 4, .inl (C.2.2.1, 4, .inr (.inl (fun k => lN ((ownN b arm v) k)))))] : va_W) ++ wB C a b) H := hP
        have hD : va_D (q_A (wX C q t f v o ++ wB C a b) s) (([(q 0, .inr (2, [.ref (q 1), .ref (q 2), .ref (q 3), .ref (q 4)])), (q 1, .inl (C.2.2.1, 16, .inr (.inl (fun k => lN (t k))))), (q 2, .inl (C.2.2.2.1, 4, .inl (fun k => nI (f k)))), (q 3, .inl (C.2.2.1, 4, .inr (.inl (fun k => lN (v k))))), (q 4, .inl (C.2.2.1, 4, .inr (.inl (fun k => lN ((ownN b arm v) k)))))] : va_W) ++ wB C a b) := hD
        have hP : va_P C.1 vwCl (wX C q t f v (ownN b arm v) ++ wB C a b) H := hP
        have hD : va_D (q_A (wX C q t f v o ++ wB C a b) s) (wX C q t f v (ownN b arm v) ++ wB C a b) := hD
        have hoh := ownN_le hB ha hh hv
        refine lv_aload_n hx hb dX2_turn_144 rfl (lv_at hl 2 rfl) ?_
        refine va_get (ci := 2) (v := .ref (q 4)) (C := RX2) (T := TX2) (N := 4) hx hb hts hin2 hown hK.1 hP 0 rfl rfl 3 (by decide) hf22 (fun _ h9 => h9) rfl dX2_turn_145 ?_
        refine lv_iload_n hx hb dX2_turn_148 rfl (lv_at hl 5 rfl) ?_
        refine q_N (As := [.ref (q 4), .int (nI h)]) (rest := []) ⟨hx, hb, hml, hown, hts⟩ (c_X4_at_ l C (q 4) 4 h (fun k => lN ((ownN b arm v) k)) (by omega) (by decide)) ⟨va_cnB 2 hts gX2_turn_X4_at__n64 rfl rfl rfl (q_nw hK 6 rfl) (hts (.initialized RX4) (by decide +kernel)) (by decide +kernel) ⟨Nat.le_of_ble_eq_true rfl, Nat.le_of_ble_eq_true rfl⟩, hts (.static yX4_at_) (by decide +kernel), trivial⟩ hK hP hD hS hA [4] (by decide) rfl rfl hl.1 rfl (Nat.le_of_ble_eq_true rfl) dX2_turn_149 (Nat.zero_le _) (Nat.zero_le _) (fun r w1 H locs hQ hP hD hS => ?_)
        obtain ⟨rfl, rfl⟩ := hQ
        have hP : va_P C.1 vwCl (wX C q t f v (ownN b arm v) ++ wB C a b) H := hP
        have hD : va_D (q_A (wX C q t f v o ++ wB C a b) s) (wX C q t f v (ownN b arm v) ++ wB C a b) := hD
        refine W.eq (g2 := F0 m 152 ls [.long (lN ((ownN b arm v) h))]) rfl ?_
        refine lv_lstore (lv' := [(6, .long (lN ((ownN b arm v) h))), (4, .long (lN (bs b 0))), (0, .ref (q 0)), (1, .ref (a 0)), (2, .int (nI arm)), (3, .int (nI h))]) hx hb dX2_turn_152 hl (by decide) rfl (fun ls hl => ?_)
        refine lv_iconst (v := nI 0) hx hb dX2_turn_154 (by decide) ?_
        refine lv_istore (lv' := [(8, .int (nI 0)), (6, .long (lN ((ownN b arm v) h))), (4, .long (lN (bs b 0))), (0, .ref (q 0)), (1, .ref (a 0)), (2, .int (nI arm)), (3, .int (nI h))]) hx hb dX2_turn_155 hl (by decide) rfl (fun ls hl => ?_)
        have K157 : ∀ (n157 i157 : Nat), i157 ≤ 4 → 4 + 1 ≤ i157 + n157 → ∀ (H : Heap) (locs : List Loc) (ls : Array Slot), va_P C.1 vwCl (wX C q t f (fillN (rndN b arm h v) v i157) (ownN b arm v) ++ wB C a b) H → va_D (q_A (wX C q t f v o ++ wB C a b) s) (wX C q t f (fillN (rndN b arm h v) v i157) (ownN b arm v) ++ wB C a b) → va_S (q_A (wX C q t f v o ++ wB C a b) s) s.heap H locs → lv_has ls 18 [(8, .int (nI i157)), (6, .long (lN (ownN b arm v h))), (0, .ref (q 0)), (1, .ref (a 0)), (2, .int (nI arm)), (3, .int (nI h))] → W p l e (q_R 1 25) s m ([.ref (q 0), .ref (a 0), .int (nI arm), .int (nI h)] : List Value).toArray below meth c H locs 0 0 (q_G C below (wX C q t f v o ++ wB C a b) (fun r w => r = none ∧ w = wX C q t f (rndN b arm h v) (ownN b arm v) ++ wB C a b) ([.ref (q 0), .ref (a 0), .int (nI arm), .int (nI h)] : List Value).toArray s) (F0 m 157 ls []) := by
          intro n157
          induction n157 with
          | zero => intro i157  q1 q2; exact absurd q2 (by omega)
          | succ n157 ih157 =>
            intro i157  hi157 hn157  H locs ls hP hD hS hl
            refine lv_iload hx hb dX2_turn_157 (lv_at hl 0 rfl) ?_
            refine lv_iconst (v := nI 4) hx hb dX2_turn_159 (by decide) ?_
            refine lv_icmp_ge (tgt := 192) hx hb dX2_turn_160 (by decide) (fun c160 => ?_) (fun c160 => ?_)
            · have c160 : 4 ≤ i157 := q_nge (by omega) (by omega) c160
              have e9 : i157 = 4 := by omega
              subst e9
              have hP := q_swpL (g := fun k => lN ((rndN b arm h v) k)) hP 3 rfl (fun k hk => congrArg lN (fillN_in hk))
              have hD := hD.set (p := 3) (a := q 3) (e := .inl (C.2.2.1, 4, .inr (.inl (fun k => lN ((rndN b arm h v) k))))) rfl
              have hP : va_P C.1 vwCl (([(q 0, .inr (2, [.ref (q 1), .ref (q 2), .ref (q 3), .ref (q 4)])), (q 1, .inl (C.2.2.1, 16, .inr (.inl (fun k => lN (t k))))), (q 2, .inl (C.2.2.2.1, 4, .inl (fun k => nI (f k)))), (q 3, .inl (C.2.2.1, 4, .inr (.inl (fun k => lN ((rndN b arm h v) k))))), (q 4, .inl (C.2.2.1, 4, .inr (.inl (fun k => lN ((ownN b arm v) k)))))] : va_W) ++ wB C a b) H := hP
              have hD : va_D (q_A (wX C q t f v o ++ wB C a b) s) (([(q 0, .inr (2, [.ref (q 1), .ref (q 2), .ref (q 3), .ref (q 4)])), (q 1, .inl (C.2.2.1, 16, .inr (.inl (fun k => lN (t k))))), (q 2, .inl (C.2.2.2.1, 4, .inl (fun k => nI (f k)))), (q 3, .inl (C.2.2.1, 4, .inr (.inl (fun k => lN ((rndN b arm h v) k))))), (q 4, .inl (C.2.2.1, 4, .inr (.inl (fun k => lN ((ownN b arm v) k)))))] : va_W) ++ wB C a b) := hD
              have hP : va_P C.1 vwCl (wX C q t f (rndN b arm h v) (ownN b arm v) ++ wB C a b) H := hP
              have hD : va_D (q_A (wX C q t f v o ++ wB C a b) s) (wX C q t f (rndN b arm h v) (ownN b arm v) ++ wB C a b) := hD
              exact q_vret hx hb hr hlocks (w1 := wX C q t f (rndN b arm h v) (ownN b arm v) ++ wB C a b) hP hS rfl dX2_turn_192 (⟨rfl, rfl⟩)
            · have c160 : i157 < 4 := q_nge' (by omega) (by omega) c160
              have hoi := ownN_le hB ha (t := i157) (by omega) hv
              refine lv_aload_n hx hb dX2_turn_163 rfl (lv_at hl 2 rfl) ?_
              refine va_get (ci := 2) (v := .ref (q 3)) (C := RX2) (T := TX2) (N := 4) hx hb hts hin2 hown hK.1 hP 0 rfl rfl 2 (by decide) hf19 (fun _ h9 => h9) rfl dX2_turn_164 ?_
              refine lv_iload hx hb dX2_turn_167 (lv_at hl 0 rfl) ?_
              refine lv_aload_n hx hb dX2_turn_169 rfl (lv_at hl 2 rfl) ?_
              refine va_get (ci := 2) (v := .ref (q 4)) (C := RX2) (T := TX2) (N := 4) hx hb hts hin2 hown hK.1 hP 0 rfl rfl 3 (by decide) hf22 (fun _ h9 => h9) rfl dX2_turn_170 ?_
              refine lv_iload hx hb dX2_turn_173 (lv_at hl 0 rfl) ?_
              refine q_N (As := [.ref (q 4), .int (nI i157)]) (rest := [.int (nI i157), .ref (q 3)]) ⟨hx, hb, hml, hown, hts⟩ (c_X4_at_ l C (q 4) 4 i157 (fun k => lN ((ownN b arm v) k)) (by omega) (by decide)) ⟨va_cnB 2 hts gX2_turn_X4_at__n64 rfl rfl rfl (q_nw hK 6 rfl) (hts (.initialized RX4) (by decide +kernel)) (by decide +kernel) ⟨Nat.le_of_ble_eq_true rfl, Nat.le_of_ble_eq_true rfl⟩, hts (.static yX4_at_) (by decide +kernel), trivial⟩ hK hP hD hS hA [4] (by decide) rfl rfl hl.1 rfl (Nat.le_of_ble_eq_true rfl) dX2_turn_175 (Nat.zero_le _) (Nat.zero_le _) (fun r w1 H locs hQ hP hD hS => ?_)
              obtain ⟨rfl, rfl⟩ := hQ
              have hP : va_P C.1 vwCl (wX C q t f (fillN (rndN b arm h v) v i157) (ownN b arm v) ++ wB C a b) H := hP
              have hD : va_D (q_A (wX C q t f v o ++ wB C a b) s) (wX C q t f (fillN (rndN b arm h v) v i157) (ownN b arm v) ++ wB C a b) := hD
              refine W.eq (g2 := F0 m 178 ls [.long (lN ((ownN b arm v) i157)), .int (nI i157), .ref (q 3)]) rfl ?_
              refine lv_lload hx hb dX2_turn_178 (lv_at hl 1 rfl) ?_
              refine va_mmax_long hx hb (hml.trans hl.1.symm) hown hm1_85 hm2_85 hm3_85 hm4_85 (Nat.le_of_ble_eq_true rfl) (Nat.le_of_ble_eq_true rfl) (Nat.zero_le _) (Nat.zero_le _) dX2_turn_180 ?_
              refine q_tl (y := lN (max ((ownN b arm v) i157) (ownN b arm v h))) (q_lmax (by omega) (by omega)) ?_
              refine q_N (As := [.ref (q 3), .int (nI i157), .long (lN (max ((ownN b arm v) i157) (ownN b arm v h)))]) (rest := []) ⟨hx, hb, hml, hown, hts⟩ (c_X4_store_ l C (q 3) 4 i157 (fun k => lN ((fillN (rndN b arm h v) v i157) k)) (lN (max ((ownN b arm v) i157) (ownN b arm v h))) (by omega) (by decide)) ⟨va_cnB 3 hts gX2_turn_X4_store__n33 rfl rfl rfl (q_nw hK 4 rfl) (hts (.initialized RX4) (by decide +kernel)) (by decide +kernel) ⟨Nat.le_of_ble_eq_true rfl, Nat.le_of_ble_eq_true rfl⟩, hts (.static yX4_store_) (by decide +kernel), trivial⟩ hK hP hD hS hA [3] (by decide) rfl rfl hl.1 rfl (Nat.le_of_ble_eq_true rfl) dX2_turn_183 (Nat.zero_le _) (Nat.zero_le _) (fun r w1 H locs hQ hP hD hS => ?_)
              obtain ⟨rfl, rfl⟩ := hQ
              rw [q_updL] at hP hD
              have hP : va_P C.1 vwCl (([(q 0, .inr (2, [.ref (q 1), .ref (q 2), .ref (q 3), .ref (q 4)])), (q 1, .inl (C.2.2.1, 16, .inr (.inl (fun k => lN (t k))))), (q 2, .inl (C.2.2.2.1, 4, .inl (fun k => nI (f k)))), (q 3, .inl (C.2.2.1, 4, .inr (.inl (fun k => lN (upN (fillN (rndN b arm h v) v i157) i157 (max ((ownN b arm v) i157) (ownN b arm v h)) k))))), (q 4, .inl (C.2.2.1, 4, .inr (.inl (fun k => lN ((ownN b arm v) k)))))] : va_W) ++ wB C a b) H := hP
              have hD : va_D (q_A (wX C q t f v o ++ wB C a b) s) (([(q 0, .inr (2, [.ref (q 1), .ref (q 2), .ref (q 3), .ref (q 4)])), (q 1, .inl (C.2.2.1, 16, .inr (.inl (fun k => lN (t k))))), (q 2, .inl (C.2.2.2.1, 4, .inl (fun k => nI (f k)))), (q 3, .inl (C.2.2.1, 4, .inr (.inl (fun k => lN (upN (fillN (rndN b arm h v) v i157) i157 (max ((ownN b arm v) i157) (ownN b arm v h)) k))))), (q 4, .inl (C.2.2.1, 4, .inr (.inl (fun k => lN ((ownN b arm v) k)))))] : va_W) ++ wB C a b) := hD
              refine W.eq (g2 := F0 m 186 ls []) rfl ?_
              rw [show upN (fillN (rndN b arm h v) v i157) i157 (max ((ownN b arm v) i157) (ownN b arm v h)) = fillN (rndN b arm h v) v (i157 + 1) from fillN_s _ _ _] at hP hD
              have hP : va_P C.1 vwCl (wX C q t f (fillN (rndN b arm h v) v (i157 + 1)) (ownN b arm v) ++ wB C a b) H := hP
              have hD : va_D (q_A (wX C q t f v o ++ wB C a b) s) (wX C q t f (fillN (rndN b arm h v) v (i157 + 1)) (ownN b arm v) ++ wB C a b) := hD
              refine lv_iinc (v := nI (i157 + 1)) (lv' := [(8, .int (nI (i157 + 1))), (6, .long (lN (ownN b arm v h))), (0, .ref (q 0)), (1, .ref (a 0)), (2, .int (nI arm)), (3, .int (nI h))]) hx hb dX2_turn_186 hl (k := 0) rfl (nI_1 _) (by decide) rfl (fun ls hl => ?_)
              refine lv_goto (tgt := 157) hx hb dX2_turn_189 (by decide) ?_
              exact ih157 (i157 + 1)  (by omega) (by omega)  _ _ ls hP hD hS (lv_sub hl [0, 1, 2, 3, 4, 5] rfl)
        exact K157 (4 + 1 - 0) 0  (by omega) (by omega)  _ _ ls hP hD hS (lv_sub hl [0, 1, 3, 4, 5, 6] rfl)
      · have c17 : i14 < 4 := q_nge' (by omega) (by omega) c17
        refine lv_iload_n hx hb dX2_turn_20 rfl (lv_at hl 4 rfl) ?_
        refine lv_iload hx hb dX2_turn_21 (lv_at hl 0 rfl) ?_
        refine q_N (As := [.int (nI arm), .int (nI i14)]) (rest := []) ⟨hx, hb, hml, hown, hts⟩ (c_X4_slotOf l C arm i14) ⟨va_cnB 2 hts gX2_turn_X4_slotOf_n25 rfl rfl rfl (q_nw hK 3 rfl) (hts (.initialized RX4) (by decide +kernel)) (by decide +kernel) ⟨Nat.le_of_ble_eq_true rfl, Nat.le_of_ble_eq_true rfl⟩, hts (.static yX4_slotOf) (by decide +kernel), trivial⟩ hK hP hD hS hA [] (by decide) rfl rfl hl.1 rfl (Nat.le_of_ble_eq_true rfl) dX2_turn_23 (Nat.zero_le _) (Nat.zero_le _) (fun r w1 H locs hQ hP hD hS => ?_)
        obtain ⟨rfl, rfl⟩ := hQ
        refine W.eq (g2 := F0 m 26 ls [.int (nI (4 * arm + i14))]) rfl ?_
        refine lv_istore (lv' := [(7, .int (nI (4 * arm + i14))), (6, .int (nI i14)), (4, .long (lN (bs b 0))), (0, .ref (q 0)), (1, .ref (a 0)), (2, .int (nI arm)), (3, .int (nI h))]) hx hb dX2_turn_26 hl (by decide) rfl (fun ls hl => ?_)
        obtain ⟨f1, f2, f3, f4⟩ := ok1 (4 * arm + i14) (by omega)
        refine lv_aload_n hx hb dX2_turn_28 rfl (lv_at hl 4 rfl) ?_
        refine va_get (ci := 0) (v := .ref (a 4)) (C := RX0) (T := TX0) (N := 12) hx hb hts hin0 hown hK.1 hP 5 rfl rfl 3 (by decide) hf58 (fun _ h9 => h9) rfl dX2_turn_29 ?_
        refine lv_iload hx hb dX2_turn_32 (lv_at hl 0 rfl) ?_
        refine q_N (As := [.ref (a 4), .int (nI (4 * arm + i14))]) (rest := []) ⟨hx, hb, hml, hown, hts⟩ (c_X4_at l C (a 4) 16 (4 * arm + i14) (fun k => nI (bc b k)) (by omega) (by decide)) ⟨va_cnB 2 hts gX2_turn_X4_at_n43 rfl rfl rfl (q_nw hK 5 rfl) (hts (.initialized RX4) (by decide +kernel)) (by decide +kernel) ⟨Nat.le_of_ble_eq_true rfl, Nat.le_of_ble_eq_true rfl⟩, hts (.static yX4_at) (by decide +kernel), trivial⟩ hK hP hD hS hA [9] (by decide) rfl rfl hl.1 rfl (Nat.le_of_ble_eq_true rfl) dX2_turn_34 (Nat.zero_le _) (Nat.zero_le _) (fun r w1 H locs hQ hP hD hS => ?_)
        obtain ⟨rfl, rfl⟩ := hQ
        have hP : va_P C.1 vwCl (wX C q t f v (fillN (ownN b arm v) o i14) ++ wB C a b) H := hP
        have hD : va_D (q_A (wX C q t f v o ++ wB C a b) s) (wX C q t f v (fillN (ownN b arm v) o i14) ++ wB C a b) := hD
        refine W.eq (g2 := F0 m 37 ls [.int (nI (bc b (4 * arm + i14)))]) rfl ?_
        refine lv_i2l (v := lN (bc b (4 * arm + i14))) hx hb dX2_turn_37 (nI_l (by omega)) ?_
        refine lv_lstore (lv' := [(8, .long (lN (bc b (4 * arm + i14)))), (7, .int (nI (4 * arm + i14))), (6, .int (nI i14)), (4, .long (lN (bs b 0))), (0, .ref (q 0)), (1, .ref (a 0)), (2, .int (nI arm)), (3, .int (nI h))]) hx hb dX2_turn_38 hl (by decide) rfl (fun ls hl => ?_)
        refine lv_aload_n hx hb dX2_turn_40 rfl (lv_at hl 4 rfl) ?_
        refine va_get (ci := 2) (v := .ref (q 3)) (C := RX2) (T := TX2) (N := 4) hx hb hts hin2 hown hK.1 hP 0 rfl rfl 2 (by decide) hf19 (fun _ h9 => h9) rfl dX2_turn_41 ?_
        refine lv_aload_n hx hb dX2_turn_44 rfl (lv_at hl 5 rfl) ?_
        refine va_get (ci := 0) (v := .ref (a 2)) (C := RX0) (T := TX0) (N := 12) hx hb hts hin0 hown hK.1 hP 5 rfl rfl 1 (by decide) hf61 (fun _ h9 => h9) rfl dX2_turn_45 ?_
        refine lv_iload hx hb dX2_turn_48 (lv_at hl 1 rfl) ?_
        refine q_N (As := [.ref (a 2), .int (nI (4 * arm + i14))]) (rest := [.ref (q 3)]) ⟨hx, hb, hml, hown, hts⟩ (c_X4_at l C (a 2) 16 (4 * arm + i14) (fun k => nI (bo b k)) (by omega) (by decide)) ⟨va_cnB 2 hts gX2_turn_X4_at_n43 rfl rfl rfl (q_nw hK 5 rfl) (hts (.initialized RX4) (by decide +kernel)) (by decide +kernel) ⟨Nat.le_of_ble_eq_true rfl, Nat.le_of_ble_eq_true rfl⟩, hts (.static yX4_at) (by decide +kernel), trivial⟩ hK hP hD hS hA [7] (by decide) rfl rfl hl.1 rfl (Nat.le_of_ble_eq_true rfl) dX2_turn_50 (Nat.zero_le _) (Nat.zero_le _) (fun r w1 H locs hQ hP hD hS => ?_)
        obtain ⟨rfl, rfl⟩ := hQ
        have hP : va_P C.1 vwCl (wX C q t f v (fillN (ownN b arm v) o i14) ++ wB C a b) H := hP
        have hD : va_D (q_A (wX C q t f v o ++ wB C a b) s) (wX C q t f v (fillN (ownN b arm v) o i14) ++ wB C a b) := hD
        refine W.eq (g2 := F0 m 53 ls [.int (nI (bo b (4 * arm + i14))), .ref (q 3)]) rfl ?_
        refine q_N (As := [.ref (q 3), .int (nI (bo b (4 * arm + i14)))]) (rest := []) ⟨hx, hb, hml, hown, hts⟩ (c_X4_at_ l C (q 3) 4 (bo b (4 * arm + i14)) (fun k => lN (v k)) (by omega) (by decide)) ⟨va_cnB 2 hts gX2_turn_X4_at__n64 rfl rfl rfl (q_nw hK 6 rfl) (hts (.initialized RX4) (by decide +kernel)) (by decide +kernel) ⟨Nat.le_of_ble_eq_true rfl, Nat.le_of_ble_eq_true rfl⟩, hts (.static yX4_at_) (by decide +kernel), trivial⟩ hK hP hD hS hA [3] (by decide) rfl rfl hl.1 rfl (Nat.le_of_ble_eq_true rfl) dX2_turn_53 (Nat.zero_le _) (Nat.zero_le _) (fun r w1 H locs hQ hP hD hS => ?_)
        obtain ⟨rfl, rfl⟩ := hQ
        have hP : va_P C.1 vwCl (wX C q t f v (fillN (ownN b arm v) o i14) ++ wB C a b) H := hP
        have hD : va_D (q_A (wX C q t f v o ++ wB C a b) s) (wX C q t f v (fillN (ownN b arm v) o i14) ++ wB C a b) := hD
        refine W.eq (g2 := F0 m 56 ls [.long (lN (v (bo b (4 * arm + i14))))]) rfl ?_
        refine lv_lstore (lv' := [(10, .long (lN (v (bo b (4 * arm + i14))))), (8, .long (lN (bc b (4 * arm + i14)))), (7, .int (nI (4 * arm + i14))), (6, .int (nI i14)), (4, .long (lN (bs b 0))), (0, .ref (q 0)), (1, .ref (a 0)), (2, .int (nI arm)), (3, .int (nI h))]) hx hb dX2_turn_56 hl (by decide) rfl (fun ls hl => ?_)
        refine lv_aload_n hx hb dX2_turn_58 rfl (lv_at hl 5 rfl) ?_
        refine va_get (ci := 2) (v := .ref (q 3)) (C := RX2) (T := TX2) (N := 4) hx hb hts hin2 hown hK.1 hP 0 rfl rfl 2 (by decide) hf19 (fun _ h9 => h9) rfl dX2_turn_59 ?_
        refine lv_aload_n hx hb dX2_turn_62 rfl (lv_at hl 6 rfl) ?_
        refine va_get (ci := 0) (v := .ref (a 3)) (C := RX0) (T := TX0) (N := 12) hx hb hts hin0 hown hK.1 hP 5 rfl rfl 2 (by decide) hf67 (fun _ h9 => h9) rfl dX2_turn_63 ?_
        refine lv_iload hx hb dX2_turn_66 (lv_at hl 2 rfl) ?_
        refine q_N (As := [.ref (a 3), .int (nI (4 * arm + i14))]) (rest := [.ref (q 3)]) ⟨hx, hb, hml, hown, hts⟩ (c_X4_at l C (a 3) 16 (4 * arm + i14) (fun k => nI (bb b k)) (by omega) (by decide)) ⟨va_cnB 2 hts gX2_turn_X4_at_n43 rfl rfl rfl (q_nw hK 5 rfl) (hts (.initialized RX4) (by decide +kernel)) (by decide +kernel) ⟨Nat.le_of_ble_eq_true rfl, Nat.le_of_ble_eq_true rfl⟩, hts (.static yX4_at) (by decide +kernel), trivial⟩ hK hP hD hS hA [8] (by decide) rfl rfl hl.1 rfl (Nat.le_of_ble_eq_true rfl) dX2_turn_68 (Nat.zero_le _) (Nat.zero_le _) (fun r w1 H locs hQ hP hD hS => ?_)
        obtain ⟨rfl, rfl⟩ := hQ
        have hP : va_P C.1 vwCl (wX C q t f v (fillN (ownN b arm v) o i14) ++ wB C a b) H := hP
        have hD : va_D (q_A (wX C q t f v o ++ wB C a b) s) (wX C q t f v (fillN (ownN b arm v) o i14) ++ wB C a b) := hD
        refine W.eq (g2 := F0 m 71 ls [.int (nI (bb b (4 * arm + i14))), .ref (q 3)]) rfl ?_
        refine q_N (As := [.ref (q 3), .int (nI (bb b (4 * arm + i14)))]) (rest := []) ⟨hx, hb, hml, hown, hts⟩ (c_X4_at_ l C (q 3) 4 (bb b (4 * arm + i14)) (fun k => lN (v k)) (by omega) (by decide)) ⟨va_cnB 2 hts gX2_turn_X4_at__n64 rfl rfl rfl (q_nw hK 6 rfl) (hts (.initialized RX4) (by decide +kernel)) (by decide +kernel) ⟨Nat.le_of_ble_eq_true rfl, Nat.le_of_ble_eq_true rfl⟩, hts (.static yX4_at_) (by decide +kernel), trivial⟩ hK hP hD hS hA [3] (by decide) rfl rfl hl.1 rfl (Nat.le_of_ble_eq_true rfl) dX2_turn_71 (Nat.zero_le _) (Nat.zero_le _) (fun r w1 H locs hQ hP hD hS => ?_)
        obtain ⟨rfl, rfl⟩ := hQ
        have hP : va_P C.1 vwCl (wX C q t f v (fillN (ownN b arm v) o i14) ++ wB C a b) H := hP
        have hD : va_D (q_A (wX C q t f v o ++ wB C a b) s) (wX C q t f v (fillN (ownN b arm v) o i14) ++ wB C a b) := hD
        refine W.eq (g2 := F0 m 74 ls [.long (lN (v (bb b (4 * arm + i14))))]) rfl ?_
        refine lv_lstore (lv' := [(12, .long (lN (v (bb b (4 * arm + i14))))), (10, .long (lN (v (bo b (4 * arm + i14))))), (8, .long (lN (bc b (4 * arm + i14)))), (7, .int (nI (4 * arm + i14))), (6, .int (nI i14)), (4, .long (lN (bs b 0))), (0, .ref (q 0)), (1, .ref (a 0)), (2, .int (nI arm)), (3, .int (nI h))]) hx hb dX2_turn_74 hl (by decide) rfl (fun ls hl => ?_)
        obtain ⟨e1, e2, e3, e4⟩ := expN_le hB (k := 4 * arm + i14) (by omega) hv
        obtain ⟨f1, f2, f3, f4⟩ := ok1 (4 * arm + i14) (by omega)
        have e5 : bs b 0 * ((bc b (4 * arm + i14) * v (bo b (4 * arm + i14)) + (8 - bc b (4 * arm + i14)) * v (bb b (4 * arm + i14))) / 8) ≤ 99 * 6000000 := Nat.mul_le_mul ok3 e4
        refine lv_lload hx hb dX2_turn_76 (lv_at hl 2 rfl) ?_
        refine lv_lload hx hb dX2_turn_78 (lv_at hl 1 rfl) ?_
        refine lv_lmul hx hb dX2_turn_80 ?_
        refine q_tl (y := lN ((bc b (4 * arm + i14)) * (v (bo b (4 * arm + i14))))) (lN_mul _ _) ?_
        refine lv_ldc2 hx hb hown hk70 dX2_turn_81 ?_
        refine q_tl (y := lN 8) (by decide) ?_
        refine lv_lload hx hb dX2_turn_84 (lv_at hl 2 rfl) ?_
        refine lv_lsub hx hb dX2_turn_86 ?_
        refine q_tl (y := lN (8 - (bc b (4 * arm + i14)))) (lN_sub (by omega)) ?_
        refine lv_lload hx hb dX2_turn_87 (lv_at hl 0 rfl) ?_
        refine lv_lmul hx hb dX2_turn_89 ?_
        refine q_tl (y := lN ((8 - (bc b (4 * arm + i14))) * (v (bb b (4 * arm + i14))))) (lN_mul _ _) ?_
        refine lv_ladd hx hb dX2_turn_90 ?_
        refine q_tl (y := lN (((bc b (4 * arm + i14)) * (v (bo b (4 * arm + i14)))) + ((8 - (bc b (4 * arm + i14))) * (v (bb b (4 * arm + i14)))))) (lN_add _ _) ?_
        refine lv_ldc2 hx hb hown hk70 dX2_turn_91 ?_
        refine q_tl (y := lN 8) (by decide) ?_
        refine q_S (As := [.long (lN (((bc b (4 * arm + i14)) * (v (bo b (4 * arm + i14)))) + ((8 - (bc b (4 * arm + i14))) * (v (bb b (4 * arm + i14)))))), .long (lN 8)]) (rest := []) ⟨hx, hb, hml, hown, hts⟩ (c_J9_floorDiv_f86c9 l C (lN (((bc b (4 * arm + i14)) * (v (bo b (4 * arm + i14)))) + ((8 - (bc b (4 * arm + i14))) * (v (bb b (4 * arm + i14)))))) (lN 8) (by decide)) (va_cwS 2 hts gX2_turn_J9_floorDiv_f86c9 rfl rfl rfl (by decide +kernel) ⟨Nat.le_of_ble_eq_true rfl, Nat.le_of_ble_eq_true rfl⟩) hK hP hD hS hA [] (by decide) rfl rfl hl.1 rfl (Nat.le_of_ble_eq_true rfl) dX2_turn_94 (Nat.zero_le _) (Nat.zero_le _) (fun r w1 H locs hQ hP hD hS => ?_)
        obtain ⟨rfl, rfl⟩ := hQ
        refine W.eq (g2 := F0 m 97 ls [.long (fdv (lN (((bc b (4 * arm + i14)) * (v (bo b (4 * arm + i14)))) + ((8 - (bc b (4 * arm + i14))) * (v (bb b (4 * arm + i14)))))) (lN 8))]) rfl ?_
        refine q_tl (y := lN ((((bc b (4 * arm + i14)) * (v (bo b (4 * arm + i14)))) + ((8 - (bc b (4 * arm + i14))) * (v (bb b (4 * arm + i14))))) / 8)) (fdv_N (by omega) (by decide) (by decide)) ?_
        refine lv_lstore (lv' := [(14, .long (lN ((((bc b (4 * arm + i14)) * (v (bo b (4 * arm + i14)))) + ((8 - (bc b (4 * arm + i14))) * (v (bb b (4 * arm + i14))))) / 8))), (12, .long (lN (v (bb b (4 * arm + i14))))), (10, .long (lN (v (bo b (4 * arm + i14))))), (8, .long (lN (bc b (4 * arm + i14)))), (7, .int (nI (4 * arm + i14))), (6, .int (nI i14)), (4, .long (lN (bs b 0))), (0, .ref (q 0)), (1, .ref (a 0)), (2, .int (nI arm)), (3, .int (nI h))]) hx hb dX2_turn_97 hl (by decide) rfl (fun ls hl => ?_)
        refine lv_lload hx hb dX2_turn_99 (lv_at hl 6 rfl) ?_
        refine lv_lload hx hb dX2_turn_101 (lv_at hl 0 rfl) ?_
        refine lv_lmul hx hb dX2_turn_103 ?_
        refine q_tl (y := lN ((bs b 0) * ((((bc b (4 * arm + i14)) * (v (bo b (4 * arm + i14)))) + ((8 - (bc b (4 * arm + i14))) * (v (bb b (4 * arm + i14))))) / 8))) (lN_mul _ _) ?_
        refine lv_ldc2 hx hb hown hk78 dX2_turn_104 ?_
        refine q_tl (y := lN 100) (by decide) ?_
        refine q_S (As := [.long (lN ((bs b 0) * ((((bc b (4 * arm + i14)) * (v (bo b (4 * arm + i14)))) + ((8 - (bc b (4 * arm + i14))) * (v (bb b (4 * arm + i14))))) / 8))), .long (lN 100)]) (rest := []) ⟨hx, hb, hml, hown, hts⟩ (c_J9_floorDiv_f86c9 l C (lN ((bs b 0) * ((((bc b (4 * arm + i14)) * (v (bo b (4 * arm + i14)))) + ((8 - (bc b (4 * arm + i14))) * (v (bb b (4 * arm + i14))))) / 8))) (lN 100) (by decide)) (va_cwS 2 hts gX2_turn_J9_floorDiv_f86c9 rfl rfl rfl (by decide +kernel) ⟨Nat.le_of_ble_eq_true rfl, Nat.le_of_ble_eq_true rfl⟩) hK hP hD hS hA [] (by decide) rfl rfl hl.1 rfl (Nat.le_of_ble_eq_true rfl) dX2_turn_107 (Nat.zero_le _) (Nat.zero_le _) (fun r w1 H locs hQ hP hD hS => ?_)
        obtain ⟨rfl, rfl⟩ := hQ
        refine W.eq (g2 := F0 m 110 ls [.long (fdv (lN ((bs b 0) * ((((bc b (4 * arm + i14)) * (v (bo b (4 * arm + i14)))) + ((8 - (bc b (4 * arm + i14))) * (v (bb b (4 * arm + i14))))) / 8))) (lN 100))]) rfl ?_
        refine q_tl (y := lN (((bs b 0) * ((((bc b (4 * arm + i14)) * (v (bo b (4 * arm + i14)))) + ((8 - (bc b (4 * arm + i14))) * (v (bb b (4 * arm + i14))))) / 8)) / 100)) (fdv_N (by omega) (by decide) (by decide)) ?_
        refine lv_lstore (lv' := [(16, .long (lN (((bs b 0) * ((((bc b (4 * arm + i14)) * (v (bo b (4 * arm + i14)))) + ((8 - (bc b (4 * arm + i14))) * (v (bb b (4 * arm + i14))))) / 8)) / 100))), (14, .long (lN ((((bc b (4 * arm + i14)) * (v (bo b (4 * arm + i14)))) + ((8 - (bc b (4 * arm + i14))) * (v (bb b (4 * arm + i14))))) / 8))), (12, .long (lN (v (bb b (4 * arm + i14))))), (10, .long (lN (v (bo b (4 * arm + i14))))), (8, .long (lN (bc b (4 * arm + i14)))), (7, .int (nI (4 * arm + i14))), (6, .int (nI i14)), (4, .long (lN (bs b 0))), (0, .ref (q 0)), (1, .ref (a 0)), (2, .int (nI arm)), (3, .int (nI h))]) hx hb dX2_turn_110 hl (by decide) rfl (fun ls hl => ?_)
        refine lv_aload_n hx hb dX2_turn_112 rfl (lv_at hl 8 rfl) ?_
        refine va_get (ci := 2) (v := .ref (q 4)) (C := RX2) (T := TX2) (N := 4) hx hb hts hin2 hown hK.1 hP 0 rfl rfl 3 (by decide) hf22 (fun _ h9 => h9) rfl dX2_turn_113 ?_
        refine lv_iload hx hb dX2_turn_116 (lv_at hl 6 rfl) ?_
        refine lv_ldc2 hx hb hown hk80 dX2_turn_118 ?_
        refine q_tl (y := lN 1000) (by decide) ?_
        refine lv_aload_n hx hb dX2_turn_121 rfl (lv_at hl 9 rfl) ?_
        refine va_get (ci := 0) (v := .ref (a 1)) (C := RX0) (T := TX0) (N := 12) hx hb hts hin0 hown hK.1 hP 5 rfl rfl 0 (by decide) hf82 (fun _ h9 => h9) rfl dX2_turn_122 ?_
        refine lv_iload hx hb dX2_turn_125 (lv_at hl 5 rfl) ?_
        refine q_N (As := [.ref (a 1), .int (nI (4 * arm + i14))]) (rest := [.long (lN 1000), .int (nI i14), .ref (q 4)]) ⟨hx, hb, hml, hown, hts⟩ (c_X4_at l C (a 1) 16 (4 * arm + i14) (fun k => nI (bg b k)) (by omega) (by decide)) ⟨va_cnB 2 hts gX2_turn_X4_at_n43 rfl rfl rfl (q_nw hK 5 rfl) (hts (.initialized RX4) (by decide +kernel)) (by decide +kernel) ⟨Nat.le_of_ble_eq_true rfl, Nat.le_of_ble_eq_true rfl⟩, hts (.static yX4_at) (by decide +kernel), trivial⟩ hK hP hD hS hA [6] (by decide) rfl rfl hl.1 rfl (Nat.le_of_ble_eq_true rfl) dX2_turn_127 (Nat.zero_le _) (Nat.zero_le _) (fun r w1 H locs hQ hP hD hS => ?_)
        obtain ⟨rfl, rfl⟩ := hQ
        have hP : va_P C.1 vwCl (wX C q t f v (fillN (ownN b arm v) o i14) ++ wB C a b) H := hP
        have hD : va_D (q_A (wX C q t f v o ++ wB C a b) s) (wX C q t f v (fillN (ownN b arm v) o i14) ++ wB C a b) := hD
        refine W.eq (g2 := F0 m 130 ls [.int (nI (bg b (4 * arm + i14))), .long (lN 1000), .int (nI i14), .ref (q 4)]) rfl ?_
        refine lv_i2l (v := lN (bg b (4 * arm + i14))) hx hb dX2_turn_130 (nI_l (by omega)) ?_
        refine lv_lmul hx hb dX2_turn_131 ?_
        refine q_tl (y := lN (1000 * (bg b (4 * arm + i14)))) (lN_mul _ _) ?_
        refine lv_lload hx hb dX2_turn_132 (lv_at hl 0 rfl) ?_
        refine lv_ladd hx hb dX2_turn_134 ?_
        refine q_tl (y := lN ((1000 * (bg b (4 * arm + i14))) + (((bs b 0) * ((((bc b (4 * arm + i14)) * (v (bo b (4 * arm + i14)))) + ((8 - (bc b (4 * arm + i14))) * (v (bb b (4 * arm + i14))))) / 8)) / 100))) (lN_add _ _) ?_
        refine q_N (As := [.ref (q 4), .int (nI i14), .long (lN ((1000 * (bg b (4 * arm + i14))) + (((bs b 0) * ((((bc b (4 * arm + i14)) * (v (bo b (4 * arm + i14)))) + ((8 - (bc b (4 * arm + i14))) * (v (bb b (4 * arm + i14))))) / 8)) / 100)))]) (rest := []) ⟨hx, hb, hml, hown, hts⟩ (c_X4_store_ l C (q 4) 4 i14 (fun k => lN ((fillN (ownN b arm v) o i14) k)) (lN ((1000 * (bg b (4 * arm + i14))) + (((bs b 0) * ((((bc b (4 * arm + i14)) * (v (bo b (4 * arm + i14)))) + ((8 - (bc b (4 * arm + i14))) * (v (bb b (4 * arm + i14))))) / 8)) / 100))) (by omega) (by decide)) ⟨va_cnB 3 hts gX2_turn_X4_store__n33 rfl rfl rfl (q_nw hK 4 rfl) (hts (.initialized RX4) (by decide +kernel)) (by decide +kernel) ⟨Nat.le_of_ble_eq_true rfl, Nat.le_of_ble_eq_true rfl⟩, hts (.static yX4_store_) (by decide +kernel), trivial⟩ hK hP hD hS hA [4] (by decide) rfl rfl hl.1 rfl (Nat.le_of_ble_eq_true rfl) dX2_turn_135 (Nat.zero_le _) (Nat.zero_le _) (fun r w1 H locs hQ hP hD hS => ?_)
        obtain ⟨rfl, rfl⟩ := hQ
        rw [q_updL] at hP hD
        have hP : va_P C.1 vwCl (([(q 0, .inr (2, [.ref (q 1), .ref (q 2), .ref (q 3), .ref (q 4)])), (q 1, .inl (C.2.2.1, 16, .inr (.inl (fun k => lN (t k))))), (q 2, .inl (C.2.2.2.1, 4, .inl (fun k => nI (f k)))), (q 3, .inl (C.2.2.1, 4, .inr (.inl (fun k => lN (v k))))), (q 4, .inl (C.2.2.1, 4, .inr (.inl (fun k => lN (upN (fillN (ownN b arm v) o i14) i14 ((1000 * (bg b (4 * arm + i14))) + (((bs b 0) * ((((bc b (4 * arm + i14)) * (v (bo b (4 * arm + i14)))) + ((8 - (bc b (4 * arm + i14))) * (v (bb b (4 * arm + i14))))) / 8)) / 100)) k)))))] : va_W) ++ wB C a b) H := hP
        have hD : va_D (q_A (wX C q t f v o ++ wB C a b) s) (([(q 0, .inr (2, [.ref (q 1), .ref (q 2), .ref (q 3), .ref (q 4)])), (q 1, .inl (C.2.2.1, 16, .inr (.inl (fun k => lN (t k))))), (q 2, .inl (C.2.2.2.1, 4, .inl (fun k => nI (f k)))), (q 3, .inl (C.2.2.1, 4, .inr (.inl (fun k => lN (v k))))), (q 4, .inl (C.2.2.1, 4, .inr (.inl (fun k => lN (upN (fillN (ownN b arm v) o i14) i14 ((1000 * (bg b (4 * arm + i14))) + (((bs b 0) * ((((bc b (4 * arm + i14)) * (v (bo b (4 * arm + i14)))) + ((8 - (bc b (4 * arm + i14))) * (v (bb b (4 * arm + i14))))) / 8)) / 100)) k)))))] : va_W) ++ wB C a b) := hD
        refine W.eq (g2 := F0 m 138 ls []) rfl ?_
        rw [show upN (fillN (ownN b arm v) o i14) i14 ((1000 * (bg b (4 * arm + i14))) + (((bs b 0) * ((((bc b (4 * arm + i14)) * (v (bo b (4 * arm + i14)))) + ((8 - (bc b (4 * arm + i14))) * (v (bb b (4 * arm + i14))))) / 8)) / 100)) = fillN (ownN b arm v) o (i14 + 1) from fillN_s _ _ _] at hP hD
        have hP : va_P C.1 vwCl (wX C q t f v (fillN (ownN b arm v) o (i14 + 1)) ++ wB C a b) H := hP
        have hD : va_D (q_A (wX C q t f v o ++ wB C a b) s) (wX C q t f v (fillN (ownN b arm v) o (i14 + 1)) ++ wB C a b) := hD
        refine lv_iinc (v := nI (i14 + 1)) (lv' := [(6, .int (nI (i14 + 1))), (16, .long (lN (((bs b 0) * ((((bc b (4 * arm + i14)) * (v (bo b (4 * arm + i14)))) + ((8 - (bc b (4 * arm + i14))) * (v (bb b (4 * arm + i14))))) / 8)) / 100))), (14, .long (lN ((((bc b (4 * arm + i14)) * (v (bo b (4 * arm + i14)))) + ((8 - (bc b (4 * arm + i14))) * (v (bb b (4 * arm + i14))))) / 8))), (12, .long (lN (v (bb b (4 * arm + i14))))), (10, .long (lN (v (bo b (4 * arm + i14))))), (8, .long (lN (bc b (4 * arm + i14)))), (7, .int (nI (4 * arm + i14))), (4, .long (lN (bs b 0))), (0, .ref (q 0)), (1, .ref (a 0)), (2, .int (nI arm)), (3, .int (nI h))]) hx hb dX2_turn_138 hl (k := 6) rfl (nI_1 _) (by decide) rfl (fun ls hl => ?_)
        refine lv_goto (tgt := 14) hx hb dX2_turn_141 (by decide) ?_
        exact ih14 (i14 + 1)  (by omega) (by omega)  _ _ ls hP hD hS (lv_sub hl [0, 7, 8, 9, 10, 11] rfl)
  rw [show o = fillN (ownN b arm v) o 0 from (fillN_0 _ _).symm] at hP hD
  exact K14 (4 + 1 - 0) 0  (by omega) (by omega)  _ _ ls hP hD hS (lv_sub hl [0, 1, 2, 3, 4, 5] rfl)
end
section
/-! indices: found, the least rounds, all refreshed -/
set_option maxHeartbeats 4000000 in
set_option maxRecDepth 100000 in
theorem c_X2_indexNow (l : Launch) (C : q_C) (q : Nat → Nat) (t f v o : Nat → Nat) (a : Nat → Nat) (b : Bd) (h : Nat) (hB : OkB b) (hh : h < 4) (hv : ∀ j, j < 4 → v j ≤ 6000000) : q_M C l yX2_indexNow wsX2_indexNow 1 25 [.ref (q 0), .ref (a 0), .int (nI h)] (wX C q t f v o ++ wB C a b) (fun r w => r = some (.long (lN (ixN b h v))) ∧ w = wX C q t f v o ++ wB C a b) := by
  obtain ⟨ok1, ok2, ⟨ok3, ok4, ok5, ok6, ok7⟩, ok8, ok9⟩ := id hB
  have e5 := (ixN_le (b := b) (h := h) (hv h hh)).1
  refine q_head (cc := cX2_indexNow) (maxL := 3) (ret := (some .long)) (by decide +kernel) rfl (Nat.le_of_ble_eq_true rfl) ?_
  intro p e s m below meth c hx hb hr hlocks hml hown hts hK hP hD hS hA ls hl
  have hl : lv_has ls 3 [(0, .ref (q 0)), (1, .ref (a 0)), (2, .int (nI h))] := hl
  have hf19 := hts (.fieldLink RX2 19 "RestedArms$Indices" "values" "[J") (by decide +kernel)
  have hf37 := hts (.fieldLink RX2 37 "RestedArms$Board" "settings" "[I") (by decide +kernel)
  have hin0 : ∀ w ∈ u_ws RX0 TX0 12, w ∈ wsX2_indexNow := by decide +kernel
  have hin2 : ∀ w ∈ u_ws RX2 TX2 4, w ∈ wsX2_indexNow := by decide +kernel
  have hk78 := hts (.constantLong RX2 78 (100)) (by decide +kernel)
  refine lv_ldc2 hx hb hown hk78 dX2_indexNow_0 ?_
  refine q_tl (y := lN 100) (by decide) ?_
  refine lv_aload_n hx hb dX2_indexNow_3 rfl (lv_at hl 1 rfl) ?_
  refine va_get (ci := 0) (v := .ref (a 7)) (C := RX0) (T := TX0) (N := 12) hx hb hts hin0 hown hK.1 hP 5 rfl rfl 6 (by decide) hf37 (fun _ h9 => h9) rfl dX2_indexNow_4 ?_
  refine lv_iconst (v := nI 0) hx hb dX2_indexNow_7 (by decide) ?_
  refine q_N (As := [.ref (a 7), .int (nI 0)]) (rest := [.long (lN 100)]) ⟨hx, hb, hml, hown, hts⟩ (c_X4_at l C (a 7) 4 0 (fun k => nI (bs b k)) (by decide) (by decide)) ⟨va_cnB 2 hts gX2_indexNow_X4_at_n43 rfl rfl rfl (q_nw hK 5 rfl) (hts (.initialized RX4) (by decide +kernel)) (by decide +kernel) ⟨Nat.le_of_ble_eq_true rfl, Nat.le_of_ble_eq_true rfl⟩, hts (.static yX4_at) (by decide +kernel), trivial⟩ hK hP hD hS hA [12] (by decide) rfl rfl hl.1 rfl (Nat.le_of_ble_eq_true rfl) dX2_indexNow_8 (Nat.zero_le _) (Nat.zero_le _) (fun r w1 H locs hQ hP hD hS => ?_)
  obtain ⟨rfl, rfl⟩ := hQ
  have hP : va_P C.1 vwCl (wX C q t f v o ++ wB C a b) H := hP
  have hD : va_D (q_A (wX C q t f v o ++ wB C a b) s) (wX C q t f v o ++ wB C a b) := hD
  refine W.eq (g2 := F0 m 11 ls [.int (nI (bs b 0)), .long (lN 100)]) rfl ?_
  refine lv_i2l (v := lN (bs b 0)) hx hb dX2_indexNow_11 (nI_l (by omega)) ?_
  refine lv_lsub hx hb dX2_indexNow_12 ?_
  refine q_tl (y := lN (100 - (bs b 0))) (lN_sub (by omega)) ?_
  refine lv_aload_n hx hb dX2_indexNow_13 rfl (lv_at hl 0 rfl) ?_
  refine va_get (ci := 2) (v := .ref (q 3)) (C := RX2) (T := TX2) (N := 4) hx hb hts hin2 hown hK.1 hP 0 rfl rfl 2 (by decide) hf19 (fun _ h9 => h9) rfl dX2_indexNow_14 ?_
  refine lv_iload_n hx hb dX2_indexNow_17 rfl (lv_at hl 2 rfl) ?_
  refine q_N (As := [.ref (q 3), .int (nI h)]) (rest := [.long (lN (100 - (bs b 0)))]) ⟨hx, hb, hml, hown, hts⟩ (c_X4_at_ l C (q 3) 4 h (fun k => lN (v k)) (by omega) (by decide)) ⟨va_cnB 2 hts gX2_indexNow_X4_at__n64 rfl rfl rfl (q_nw hK 6 rfl) (hts (.initialized RX4) (by decide +kernel)) (by decide +kernel) ⟨Nat.le_of_ble_eq_true rfl, Nat.le_of_ble_eq_true rfl⟩, hts (.static yX4_at_) (by decide +kernel), trivial⟩ hK hP hD hS hA [3] (by decide) rfl rfl hl.1 rfl (Nat.le_of_ble_eq_true rfl) dX2_indexNow_18 (Nat.zero_le _) (Nat.zero_le _) (fun r w1 H locs hQ hP hD hS => ?_)
  obtain ⟨rfl, rfl⟩ := hQ
  have hP : va_P C.1 vwCl (wX C q t f v o ++ wB C a b) H := hP
  have hD : va_D (q_A (wX C q t f v o ++ wB C a b) s) (wX C q t f v o ++ wB C a b) := hD
  refine W.eq (g2 := F0 m 21 ls [.long (lN (v h)), .long (lN (100 - (bs b 0)))]) rfl ?_
  refine lv_lmul hx hb dX2_indexNow_21 ?_
  refine q_tl (y := lN ((100 - (bs b 0)) * (v h))) (lN_mul _ _) ?_
  refine lv_ldc2 hx hb hown hk78 dX2_indexNow_22 ?_
  refine q_tl (y := lN 100) (by decide) ?_
  refine q_S (As := [.long (lN ((100 - (bs b 0)) * (v h))), .long (lN 100)]) (rest := []) ⟨hx, hb, hml, hown, hts⟩ (c_J9_floorDiv_f86c9 l C (lN ((100 - (bs b 0)) * (v h))) (lN 100) (by decide)) (va_cwS 2 hts gX2_indexNow_J9_floorDiv_f86c9 rfl rfl rfl (by decide +kernel) ⟨Nat.le_of_ble_eq_true rfl, Nat.le_of_ble_eq_true rfl⟩) hK hP hD hS hA [] (by decide) rfl rfl hl.1 rfl (Nat.le_of_ble_eq_true rfl) dX2_indexNow_25 (Nat.zero_le _) (Nat.zero_le _) (fun r w1 H locs hQ hP hD hS => ?_)
  obtain ⟨rfl, rfl⟩ := hQ
  refine W.eq (g2 := F0 m 28 ls [.long (fdv (lN ((100 - (bs b 0)) * (v h))) (lN 100))]) rfl ?_
  refine q_tl (y := lN (((100 - (bs b 0)) * (v h)) / 100)) (fdv_N (by omega) (by decide) (by decide)) ?_
  exact q_lret hx hb hr hlocks (w1 := wX C q t f v o ++ wB C a b) hP hS rfl dX2_indexNow_28 (⟨rfl, rfl⟩)
set_option maxHeartbeats 4000000 in
set_option maxRecDepth 100000 in
theorem c_X2_find (l : Launch) (C : q_C) (q : Nat → Nat) (t f v o : Nat → Nat) (a : Nat → Nat) (b : Bd) (arm h : Nat) (hB : OkB b) (ha : arm < 4) (hh : h < 4) : q_M C l yX2_find wsX2_find 2 62 [.ref (q 0), .ref (a 0), .int (nI arm), .int (nI h)] (wX C q t f v o ++ wB C a b) (fun r w => r = some (.long (lN (idxN b arm h))) ∧ w = wX C q t f (valsN b arm h (bs b 1)) (ownsN b arm h o (bs b 1)) ++ wB C a b) := by
  obtain ⟨ok1, ok2, ⟨ok3, ok4, ok5, ok6, ok7⟩, ok8, ok9⟩ := id hB
  refine q_head (cc := cX2_find) (maxL := 6) (ret := (some .long)) (by decide +kernel) rfl (Nat.le_of_ble_eq_true rfl) ?_
  intro p e s m below meth c hx hb hr hlocks hml hown hts hK hP hD hS hA ls hl
  have hl : lv_has ls 6 [(0, .ref (q 0)), (1, .ref (a 0)), (2, .int (nI arm)), (3, .int (nI h))] := hl
  have hf37 := hts (.fieldLink RX2 37 "RestedArms$Board" "settings" "[I") (by decide +kernel)
  have hin0 : ∀ w ∈ u_ws RX0 TX0 12, w ∈ wsX2_find := by decide +kernel
  refine lv_aload_n hx hb dX2_find_0 rfl (lv_at hl 1 rfl) ?_
  refine va_get (ci := 0) (v := .ref (a 7)) (C := RX0) (T := TX0) (N := 12) hx hb hts hin0 hown hK.1 hP 5 rfl rfl 6 (by decide) hf37 (fun _ h9 => h9) rfl dX2_find_1 ?_
  refine lv_iconst (v := nI 1) hx hb dX2_find_4 (by decide) ?_
  refine q_N (As := [.ref (a 7), .int (nI 1)]) (rest := []) ⟨hx, hb, hml, hown, hts⟩ (c_X4_at l C (a 7) 4 1 (fun k => nI (bs b k)) (by decide) (by decide)) ⟨va_cnB 2 hts gX2_find_X4_at_n43 rfl rfl rfl (q_nw hK 5 rfl) (hts (.initialized RX4) (by decide +kernel)) (by decide +kernel) ⟨Nat.le_of_ble_eq_true rfl, Nat.le_of_ble_eq_true rfl⟩, hts (.static yX4_at) (by decide +kernel), trivial⟩ hK hP hD hS hA [12] (by decide) rfl rfl hl.1 rfl (Nat.le_of_ble_eq_true rfl) dX2_find_5 (Nat.zero_le _) (Nat.zero_le _) (fun r w1 H locs hQ hP hD hS => ?_)
  obtain ⟨rfl, rfl⟩ := hQ
  have hP : va_P C.1 vwCl (wX C q t f v o ++ wB C a b) H := hP
  have hD : va_D (q_A (wX C q t f v o ++ wB C a b) s) (wX C q t f v o ++ wB C a b) := hD
  refine W.eq (g2 := F0 m 8 ls [.int (nI (bs b 1))]) rfl ?_
  refine lv_istore (lv' := [(4, .int (nI (bs b 1))), (0, .ref (q 0)), (1, .ref (a 0)), (2, .int (nI arm)), (3, .int (nI h))]) hx hb dX2_find_8 hl (by decide) rfl (fun ls hl => ?_)
  refine lv_aload_n hx hb dX2_find_10 rfl (lv_at hl 1 rfl) ?_
  refine q_V (As := []) (rest := []) ⟨hx, hb, hml, hown, hts⟩ (c_X2_clearValues l C q t f v o ) (cwV 0 hts gX2_find_X2_clearValues rfl rfl rfl (by decide +kernel) ⟨Nat.le_of_ble_eq_true rfl, Nat.le_of_ble_eq_true rfl⟩) hK hP hD hS hA [0, 1, 2, 3, 4] (by decide) rfl 0 rfl rfl rfl rfl hl.1 rfl (Nat.le_of_ble_eq_true rfl) dX2_find_11 (Nat.zero_le _) (Nat.zero_le _) (fun r w1 H locs hQ hP hD hS => ?_)
  obtain ⟨rfl, rfl⟩ := hQ
  have hP : va_P C.1 vwCl (wX C q t f (fun _ => 0) o ++ wB C a b) H := hP
  have hD : va_D (q_A (wX C q t f v o ++ wB C a b) s) (wX C q t f (fun _ => 0) o ++ wB C a b) := hD
  refine W.eq (g2 := F0 m 14 ls []) rfl ?_
  refine lv_iconst (v := nI 0) hx hb dX2_find_14 (by decide) ?_
  refine lv_istore (lv' := [(5, .int (nI 0)), (4, .int (nI (bs b 1))), (0, .ref (q 0)), (1, .ref (a 0)), (2, .int (nI arm)), (3, .int (nI h))]) hx hb dX2_find_15 hl (by decide) rfl (fun ls hl => ?_)
  have K17 : ∀ (n17 i17 : Nat), i17 ≤ bs b 1 → bs b 1 + 1 ≤ i17 + n17 → ∀ (H : Heap) (locs : List Loc) (ls : Array Slot), va_P C.1 vwCl (wX C q t f (valsN b arm h i17) (ownsN b arm h o i17) ++ wB C a b) H → va_D (q_A (wX C q t f v o ++ wB C a b) s) (wX C q t f (valsN b arm h i17) (ownsN b arm h o i17) ++ wB C a b) → va_S (q_A (wX C q t f v o ++ wB C a b) s) s.heap H locs → lv_has ls 6 [(5, .int (nI i17)), (4, .int (nI (bs b 1))), (0, .ref (q 0)), (1, .ref (a 0)), (2, .int (nI arm)), (3, .int (nI h))] → W p l e (q_R 2 62) s m ([.ref (q 0), .ref (a 0), .int (nI arm), .int (nI h)] : List Value).toArray below meth c H locs 0 0 (q_G C below (wX C q t f v o ++ wB C a b) (fun r w => r = some (.long (lN (idxN b arm h))) ∧ w = wX C q t f (valsN b arm h (bs b 1)) (ownsN b arm h o (bs b 1)) ++ wB C a b) ([.ref (q 0), .ref (a 0), .int (nI arm), .int (nI h)] : List Value).toArray s) (F0 m 17 ls []) := by
    intro n17
    induction n17 with
    | zero => intro i17  q1 q2; exact absurd q2 (by omega)
    | succ n17 ih17 =>
      intro i17  hi17 hn17  H locs ls hP hD hS hl
      refine lv_iload hx hb dX2_find_17 (lv_at hl 0 rfl) ?_
      refine lv_iload hx hb dX2_find_19 (lv_at hl 1 rfl) ?_
      refine lv_icmp_ge (tgt := 37) hx hb dX2_find_21 (by decide) (fun c21 => ?_) (fun c21 => ?_)
      · have c21 : (bs b 1) ≤ i17 := q_nge (by omega) (by omega) c21
        have e9 : i17 = bs b 1 := by omega
        subst e9
        refine lv_aload_n hx hb dX2_find_37 rfl (lv_at hl 2 rfl) ?_
        refine lv_aload_n hx hb dX2_find_38 rfl (lv_at hl 3 rfl) ?_
        refine lv_iload_n hx hb dX2_find_39 rfl (lv_at hl 5 rfl) ?_
        refine q_V (As := [.ref (a 0), .int (nI h)]) (rest := []) ⟨hx, hb, hml, hown, hts⟩ (c_X2_indexNow l C q t f (valsN b arm h (bs b 1)) (ownsN b arm h o (bs b 1)) a b h hB (by omega) (valsN_6M hB ha hh (by omega))) (cwV 2 hts gX2_find_X2_indexNow rfl rfl rfl (by decide +kernel) ⟨Nat.le_of_ble_eq_true rfl, Nat.le_of_ble_eq_true rfl⟩) hK hP hD hS hA [0, 1, 2, 3, 4, 5, 6, 7, 8, 9, 10, 11, 12] (by decide) rfl 0 rfl rfl rfl rfl hl.1 rfl (Nat.le_of_ble_eq_true rfl) dX2_find_40 (Nat.zero_le _) (Nat.zero_le _) (fun r w1 H locs hQ hP hD hS => ?_)
        obtain ⟨rfl, rfl⟩ := hQ
        have hP : va_P C.1 vwCl (wX C q t f (valsN b arm h (bs b 1)) (ownsN b arm h o (bs b 1)) ++ wB C a b) H := hP
        have hD : va_D (q_A (wX C q t f v o ++ wB C a b) s) (wX C q t f (valsN b arm h (bs b 1)) (ownsN b arm h o (bs b 1)) ++ wB C a b) := hD
        refine W.eq (g2 := F0 m 43 ls [.long (lN (ixN b h (valsN b arm h (bs b 1))))]) rfl ?_
        exact q_lret hx hb hr hlocks (w1 := wX C q t f (valsN b arm h (bs b 1)) (ownsN b arm h o (bs b 1)) ++ wB C a b) hP hS rfl dX2_find_43 (⟨rfl, rfl⟩)
      · have c21 : i17 < (bs b 1) := q_nge' (by omega) (by omega) c21
        refine lv_aload_n hx hb dX2_find_24 rfl (lv_at hl 2 rfl) ?_
        refine lv_aload_n hx hb dX2_find_25 rfl (lv_at hl 3 rfl) ?_
        refine lv_iload_n hx hb dX2_find_26 rfl (lv_at hl 4 rfl) ?_
        refine lv_iload_n hx hb dX2_find_27 rfl (lv_at hl 5 rfl) ?_
        refine q_V (As := [.ref (a 0), .int (nI arm), .int (nI h)]) (rest := []) ⟨hx, hb, hml, hown, hts⟩ (c_X2_turn l C q t f (valsN b arm h i17) (ownsN b arm h o i17) a b arm h hB (by omega) (by omega) (valsN_6M hB ha hh (by omega))) (cwV 3 hts gX2_find_X2_turn rfl rfl rfl (by decide +kernel) ⟨Nat.le_of_ble_eq_true rfl, Nat.le_of_ble_eq_true rfl⟩) hK hP hD hS hA [0, 1, 2, 3, 4, 5, 6, 7, 8, 9, 10, 11, 12] (by decide) rfl 0 rfl rfl rfl rfl hl.1 rfl (Nat.le_of_ble_eq_true rfl) dX2_find_28 (Nat.zero_le _) (Nat.zero_le _) (fun r w1 H locs hQ hP hD hS => ?_)
        obtain ⟨rfl, rfl⟩ := hQ
        have hP : va_P C.1 vwCl (wX C q t f (rndN b arm h (valsN b arm h i17)) (ownN b arm (valsN b arm h i17)) ++ wB C a b) H := hP
        have hD : va_D (q_A (wX C q t f v o ++ wB C a b) s) (wX C q t f (rndN b arm h (valsN b arm h i17)) (ownN b arm (valsN b arm h i17)) ++ wB C a b) := hD
        refine W.eq (g2 := F0 m 31 ls []) rfl ?_
        have hP : va_P C.1 vwCl (wX C q t f (valsN b arm h (i17 + 1)) (ownsN b arm h o (i17 + 1)) ++ wB C a b) H := hP
        have hD : va_D (q_A (wX C q t f v o ++ wB C a b) s) (wX C q t f (valsN b arm h (i17 + 1)) (ownsN b arm h o (i17 + 1)) ++ wB C a b) := hD
        refine lv_iinc (v := nI (i17 + 1)) (lv' := [(5, .int (nI (i17 + 1))), (4, .int (nI (bs b 1))), (0, .ref (q 0)), (1, .ref (a 0)), (2, .int (nI arm)), (3, .int (nI h))]) hx hb dX2_find_31 hl (k := 0) rfl (nI_1 _) (by decide) rfl (fun ls hl => ?_)
        refine lv_goto (tgt := 17) hx hb dX2_find_34 (by decide) ?_
        exact ih17 (i17 + 1)  (by omega) (by omega)  _ _ ls hP hD hS (lv_sub hl [0, 1, 2, 3, 4, 5] rfl)
  exact K17 (bs b 1 + 1 - 0) 0  (by omega) (by omega)  _ _ ls hP hD hS (lv_sub hl [0, 1, 2, 3, 4, 5] rfl)
set_option maxHeartbeats 4000000 in
set_option maxRecDepth 100000 in
theorem c_X2_leastRounds (l : Launch) (C : q_C) (q : Nat → Nat) (t f v o : Nat → Nat) (a : Nat → Nat) (b : Bd) (arm h d : Nat) (hB : OkB b) (ha : arm < 4) (hh : h < 4) (hd : d ≤ 6000000) : q_M C l yX2_leastRounds wsX2_leastRounds 2 62 [.ref (q 0), .ref (a 0), .int (nI arm), .int (nI h), .long (lN d)] (wX C q t f v o ++ wB C a b) (fun r w => ∃ v1 o1, r = some (.int (nI (leastN b arm h d))) ∧ w = wX C q t f v1 o1 ++ wB C a b) := by
  obtain ⟨ok1, ok2, ⟨ok3, ok4, ok5, ok6, ok7⟩, ok8, ok9⟩ := id hB
  refine q_head (cc := cX2_leastRounds) (maxL := 8) (ret := (some .int)) (by decide +kernel) rfl (Nat.le_of_ble_eq_true rfl) ?_
  intro p e s m below meth c hx hb hr hlocks hml hown hts hK hP hD hS hA ls hl
  have hl : lv_has ls 8 [(0, .ref (q 0)), (1, .ref (a 0)), (2, .int (nI arm)), (3, .int (nI h)), (4, .long (lN d))] := hl
  have hf37 := hts (.fieldLink RX2 37 "RestedArms$Board" "settings" "[I") (by decide +kernel)
  have hin0 : ∀ w ∈ u_ws RX0 TX0 12, w ∈ wsX2_leastRounds := by decide +kernel
  refine lv_aload_n hx hb dX2_leastRounds_0 rfl (lv_at hl 1 rfl) ?_
  refine va_get (ci := 0) (v := .ref (a 7)) (C := RX0) (T := TX0) (N := 12) hx hb hts hin0 hown hK.1 hP 5 rfl rfl 6 (by decide) hf37 (fun _ h9 => h9) rfl dX2_leastRounds_1 ?_
  refine lv_iconst (v := nI 1) hx hb dX2_leastRounds_4 (by decide) ?_
  refine q_N (As := [.ref (a 7), .int (nI 1)]) (rest := []) ⟨hx, hb, hml, hown, hts⟩ (c_X4_at l C (a 7) 4 1 (fun k => nI (bs b k)) (by decide) (by decide)) ⟨va_cnB 2 hts gX2_leastRounds_X4_at_n43 rfl rfl rfl (q_nw hK 5 rfl) (hts (.initialized RX4) (by decide +kernel)) (by decide +kernel) ⟨Nat.le_of_ble_eq_true rfl, Nat.le_of_ble_eq_true rfl⟩, hts (.static yX4_at) (by decide +kernel), trivial⟩ hK hP hD hS hA [12] (by decide) rfl rfl hl.1 rfl (Nat.le_of_ble_eq_true rfl) dX2_leastRounds_5 (Nat.zero_le _) (Nat.zero_le _) (fun r w1 H locs hQ hP hD hS => ?_)
  obtain ⟨rfl, rfl⟩ := hQ
  have hP : va_P C.1 vwCl (wX C q t f v o ++ wB C a b) H := hP
  have hD : va_D (q_A (wX C q t f v o ++ wB C a b) s) (wX C q t f v o ++ wB C a b) := hD
  refine W.eq (g2 := F0 m 8 ls [.int (nI (bs b 1))]) rfl ?_
  refine lv_istore (lv' := [(6, .int (nI (bs b 1))), (0, .ref (q 0)), (1, .ref (a 0)), (2, .int (nI arm)), (3, .int (nI h)), (4, .long (lN d))]) hx hb dX2_leastRounds_8 hl (by decide) rfl (fun ls hl => ?_)
  refine lv_aload_n hx hb dX2_leastRounds_10 rfl (lv_at hl 1 rfl) ?_
  refine q_V (As := []) (rest := []) ⟨hx, hb, hml, hown, hts⟩ (c_X2_clearValues l C q t f v o ) (cwV 0 hts gX2_leastRounds_X2_clearValues rfl rfl rfl (by decide +kernel) ⟨Nat.le_of_ble_eq_true rfl, Nat.le_of_ble_eq_true rfl⟩) hK hP hD hS hA [0, 1, 2, 3, 4] (by decide) rfl 0 rfl rfl rfl rfl hl.1 rfl (Nat.le_of_ble_eq_true rfl) dX2_leastRounds_11 (Nat.zero_le _) (Nat.zero_le _) (fun r w1 H locs hQ hP hD hS => ?_)
  obtain ⟨rfl, rfl⟩ := hQ
  have hP : va_P C.1 vwCl (wX C q t f (fun _ => 0) o ++ wB C a b) H := hP
  have hD : va_D (q_A (wX C q t f v o ++ wB C a b) s) (wX C q t f (fun _ => 0) o ++ wB C a b) := hD
  refine W.eq (g2 := F0 m 14 ls []) rfl ?_
  refine lv_iconst (v := nI 1) hx hb dX2_leastRounds_14 (by decide) ?_
  refine lv_istore (lv' := [(7, .int (nI 1)), (6, .int (nI (bs b 1))), (0, .ref (q 0)), (1, .ref (a 0)), (2, .int (nI arm)), (3, .int (nI h)), (4, .long (lN d))]) hx hb dX2_leastRounds_15 hl (by decide) rfl (fun ls hl => ?_)
  have K17 : ∀ (n17 i17 : Nat), i17 ≤ (bs b 1 - 1) → (bs b 1 - 1) + 1 ≤ i17 + n17 → (lrN b arm h d (bs b 1 - 1 - i17) (i17 + 1) = leastN b arm h d) → ∀ (H : Heap) (locs : List Loc) (ls : Array Slot), va_P C.1 vwCl (wX C q t f (valsN b arm h i17) (ownsN b arm h o i17) ++ wB C a b) H → va_D (q_A (wX C q t f v o ++ wB C a b) s) (wX C q t f (valsN b arm h i17) (ownsN b arm h o i17) ++ wB C a b) → va_S (q_A (wX C q t f v o ++ wB C a b) s) s.heap H locs → lv_has ls 8 [(7, .int (nI (i17 + 1))), (6, .int (nI (bs b 1))), (0, .ref (q 0)), (1, .ref (a 0)), (2, .int (nI arm)), (3, .int (nI h)), (4, .long (lN d))] → W p l e (q_R 2 62) s m ([.ref (q 0), .ref (a 0), .int (nI arm), .int (nI h), .long (lN d)] : List Value).toArray below meth c H locs 0 0 (q_G C below (wX C q t f v o ++ wB C a b) (fun r w => ∃ v1 o1, r = some (.int (nI (leastN b arm h d))) ∧ w = wX C q t f v1 o1 ++ wB C a b) ([.ref (q 0), .ref (a 0), .int (nI arm), .int (nI h), .long (lN d)] : List Value).toArray s) (F0 m 17 ls []) := by
    intro n17
    induction n17 with
    | zero => intro i17  q1 q2; exact absurd q2 (by omega)
    | succ n17 ih17 =>
      intro i17  hi17 hn17 hL17 H locs ls hP hD hS hl
      refine lv_iload hx hb dX2_leastRounds_17 (lv_at hl 0 rfl) ?_
      refine lv_iload hx hb dX2_leastRounds_19 (lv_at hl 1 rfl) ?_
      refine lv_icmp_ge (tgt := 52) hx hb dX2_leastRounds_21 (by decide) (fun c21 => ?_) (fun c21 => ?_)
      · have c21 : (bs b 1) ≤ (i17 + 1) := q_nge (by omega) (by omega) c21
        refine lv_iload hx hb dX2_leastRounds_52 (lv_at hl 1 rfl) ?_
        exact q_iret hx hb hr hlocks (w1 := wX C q t f (valsN b arm h i17) (ownsN b arm h o i17) ++ wB C a b) hP hS rfl dX2_leastRounds_54 (⟨_, _, by rw [← lrN_end hL17 (by omega), show i17 + 1 = bs b 1 by omega], rfl⟩)
      · have c21 : (i17 + 1) < (bs b 1) := q_nge' (by omega) (by omega) c21
        refine lv_aload_n hx hb dX2_leastRounds_24 rfl (lv_at hl 2 rfl) ?_
        refine lv_aload_n hx hb dX2_leastRounds_25 rfl (lv_at hl 3 rfl) ?_
        refine lv_iload_n hx hb dX2_leastRounds_26 rfl (lv_at hl 4 rfl) ?_
        refine lv_iload_n hx hb dX2_leastRounds_27 rfl (lv_at hl 5 rfl) ?_
        refine q_V (As := [.ref (a 0), .int (nI arm), .int (nI h)]) (rest := []) ⟨hx, hb, hml, hown, hts⟩ (c_X2_turn l C q t f (valsN b arm h i17) (ownsN b arm h o i17) a b arm h hB (by omega) (by omega) (valsN_6M hB ha hh (by omega))) (cwV 3 hts gX2_leastRounds_X2_turn rfl rfl rfl (by decide +kernel) ⟨Nat.le_of_ble_eq_true rfl, Nat.le_of_ble_eq_true rfl⟩) hK hP hD hS hA [0, 1, 2, 3, 4, 5, 6, 7, 8, 9, 10, 11, 12] (by decide) rfl 0 rfl rfl rfl rfl hl.1 rfl (Nat.le_of_ble_eq_true rfl) dX2_leastRounds_28 (Nat.zero_le _) (Nat.zero_le _) (fun r w1 H locs hQ hP hD hS => ?_)
        obtain ⟨rfl, rfl⟩ := hQ
        have hP : va_P C.1 vwCl (wX C q t f (rndN b arm h (valsN b arm h i17)) (ownN b arm (valsN b arm h i17)) ++ wB C a b) H := hP
        have hD : va_D (q_A (wX C q t f v o ++ wB C a b) s) (wX C q t f (rndN b arm h (valsN b arm h i17)) (ownN b arm (valsN b arm h i17)) ++ wB C a b) := hD
        refine W.eq (g2 := F0 m 31 ls []) rfl ?_
        have hP : va_P C.1 vwCl (wX C q t f (valsN b arm h (i17 + 1)) (ownsN b arm h o (i17 + 1)) ++ wB C a b) H := hP
        have hD : va_D (q_A (wX C q t f v o ++ wB C a b) s) (wX C q t f (valsN b arm h (i17 + 1)) (ownsN b arm h o (i17 + 1)) ++ wB C a b) := hD
        refine lv_aload_n hx hb dX2_leastRounds_31 rfl (lv_at hl 2 rfl) ?_
        refine lv_aload_n hx hb dX2_leastRounds_32 rfl (lv_at hl 3 rfl) ?_
        refine lv_iload_n hx hb dX2_leastRounds_33 rfl (lv_at hl 5 rfl) ?_
        refine q_V (As := [.ref (a 0), .int (nI h)]) (rest := []) ⟨hx, hb, hml, hown, hts⟩ (c_X2_indexNow l C q t f (valsN b arm h (i17 + 1)) (ownsN b arm h o (i17 + 1)) a b h hB (by omega) (valsN_6M hB ha hh (by omega))) (cwV 2 hts gX2_leastRounds_X2_indexNow rfl rfl rfl (by decide +kernel) ⟨Nat.le_of_ble_eq_true rfl, Nat.le_of_ble_eq_true rfl⟩) hK hP hD hS hA [0, 1, 2, 3, 4, 5, 6, 7, 8, 9, 10, 11, 12] (by decide) rfl 0 rfl rfl rfl rfl hl.1 rfl (Nat.le_of_ble_eq_true rfl) dX2_leastRounds_34 (Nat.zero_le _) (Nat.zero_le _) (fun r w1 H locs hQ hP hD hS => ?_)
        obtain ⟨rfl, rfl⟩ := hQ
        have hP : va_P C.1 vwCl (wX C q t f (valsN b arm h (i17 + 1)) (ownsN b arm h o (i17 + 1)) ++ wB C a b) H := hP
        have hD : va_D (q_A (wX C q t f v o ++ wB C a b) s) (wX C q t f (valsN b arm h (i17 + 1)) (ownsN b arm h o (i17 + 1)) ++ wB C a b) := hD
        refine W.eq (g2 := F0 m 37 ls [.long (lN (ixN b h (valsN b arm h (i17 + 1))))]) rfl ?_
        refine lv_lload hx hb dX2_leastRounds_37 (lv_at hl 6 rfl) ?_
        refine W.lcmp hx hb dX2_leastRounds_39 ?_
        have e8 := (ixN_le (b := b) (h := h) (valsN_6M hB ha hh (i := i17 + 1) (by omega) h hh)).2
        refine lv_if_ne (tgt := 46) hx hb dX2_leastRounds_40 (by decide) (fun c40 => ?_) (fun c40 => ?_)
        · have c40 : (ixN b h (valsN b arm h (i17 + 1))) ≠ d := q_Lne (by omega) (by omega) c40
          refine lv_iinc (v := nI (i17 + 1 + 1)) (lv' := [(7, .int (nI (i17 + 1 + 1))), (6, .int (nI (bs b 1))), (0, .ref (q 0)), (1, .ref (a 0)), (2, .int (nI arm)), (3, .int (nI h)), (4, .long (lN d))]) hx hb dX2_leastRounds_46 hl (k := 0) rfl (nI_1 _) (by decide) rfl (fun ls hl => ?_)
          refine lv_goto (tgt := 17) hx hb dX2_leastRounds_49 (by decide) ?_
          exact ih17 (i17 + 1)  (by omega) (by omega) (by rw [show bs b 1 - 1 - (i17 + 1) = bs b 1 - 1 - i17 - 1 by omega]; exact lrN_s hL17 (by omega) c40) _ _ ls hP hD hS (lv_sub hl [0, 1, 2, 3, 4, 5, 6] rfl)
        · have c40 : (ixN b h (valsN b arm h (i17 + 1))) = d := q_Lne' (by omega) (by omega) c40
          refine lv_iload hx hb dX2_leastRounds_43 (lv_at hl 0 rfl) ?_
          exact q_iret hx hb hr hlocks (w1 := wX C q t f (valsN b arm h (i17 + 1)) (ownsN b arm h o (i17 + 1)) ++ wB C a b) hP hS rfl dX2_leastRounds_45 (⟨_, _, by rw [lrN_hit hL17 c40], rfl⟩)
  exact K17 ((bs b 1 - 1) + 1 - 0) 0  (by omega) (by omega) rfl _ _ ls hP hD hS (lv_sub hl [0, 1, 2, 3, 4, 5, 6] rfl)
set_option maxHeartbeats 4000000 in
set_option maxRecDepth 100000 in
theorem c_X2_refresh (l : Launch) (C : q_C) (q : Nat → Nat) (t f v o : Nat → Nat) (a : Nat → Nat) (b : Bd) (hB : OkB b) (hT : ∀ k, k < 4 → f k ≠ 0 → ∀ s, s < 4 → t (4 * k + s) = idxN b k s) (hf : ∀ k, k < 4 → f k ≤ 1) : q_M C l yX2_refresh wsX2_refresh 3 87 [.ref (q 0), .ref (a 0)] (wX C q t f v o ++ wB C a b) (fun r w => ∃ v1 o1, r = none ∧ w = wX C q (idxT b) (fun _ => 1) v1 o1 ++ wB C a b) := by
  obtain ⟨ok1, ok2, ⟨ok3, ok4, ok5, ok6, ok7⟩, ok8, ok9⟩ := id hB
  refine q_head (cc := cX2_refresh) (maxL := 4) (ret := none) (by decide +kernel) rfl (Nat.le_of_ble_eq_true rfl) ?_
  intro p e s m below meth c hx hb hr hlocks hml hown hts hK hP hD hS hA ls hl
  have hl : lv_has ls 4 [(0, .ref (q 0)), (1, .ref (a 0))] := hl
  have hf15 := hts (.fieldLink RX2 15 "RestedArms$Indices" "fresh" "[Z") (by decide +kernel)
  have hf9 := hts (.fieldLink RX2 9 "RestedArms$Indices" "table" "[J") (by decide +kernel)
  have hin2 : ∀ w ∈ u_ws RX2 TX2 4, w ∈ wsX2_refresh := by decide +kernel
  refine lv_iconst (v := nI 0) hx hb dX2_refresh_0 (by decide) ?_
  refine lv_istore_n (lv' := [(2, .int (nI 0)), (0, .ref (q 0)), (1, .ref (a 0))]) hx hb dX2_refresh_1 rfl hl (by decide) rfl (fun ls hl => ?_)
  have K2 : ∀ (n2 i2 : Nat), ∀ (t2 : Nat → Nat) (f2 : Nat → Nat) (v2 : Nat → Nat) (o2 : Nat → Nat), i2 ≤ 4 → 4 + 1 ≤ i2 + n2 → (∀ k, k < 4 → f2 k ≠ 0 → ∀ s', s' < 4 → t2 (4 * k + s') = idxN b k s') → (∀ k, k < 4 → f2 k ≤ 1) → (∀ k, k < i2 → f2 k ≠ 0) → ∀ (H : Heap) (locs : List Loc) (ls : Array Slot), va_P C.1 vwCl (wX C q t2 f2 v2 o2 ++ wB C a b) H → va_D (q_A (wX C q t f v o ++ wB C a b) s) (wX C q t2 f2 v2 o2 ++ wB C a b) → va_S (q_A (wX C q t f v o ++ wB C a b) s) s.heap H locs → lv_has ls 4 [(2, .int (nI i2)), (0, .ref (q 0)), (1, .ref (a 0))] → W p l e (q_R 3 87) s m ([.ref (q 0), .ref (a 0)] : List Value).toArray below meth c H locs 0 0 (q_G C below (wX C q t f v o ++ wB C a b) (fun r w => ∃ v1 o1, r = none ∧ w = wX C q (idxT b) (fun _ => 1) v1 o1 ++ wB C a b) ([.ref (q 0), .ref (a 0)] : List Value).toArray s) (F0 m 2 ls []) := by
    intro n2
    induction n2 with
    | zero => intro i2 t2 f2 v2 o2 q1 q2; exact absurd q2 (by omega)
    | succ n2 ih2 =>
      intro i2 t2 f2 v2 o2 hi2 hn2 hT2 hf2 hG2 H locs ls hP hD hS hl
      refine lv_iload_n hx hb dX2_refresh_2 rfl (lv_at hl 0 rfl) ?_
      refine lv_aload_n hx hb dX2_refresh_3 rfl (lv_at hl 1 rfl) ?_
      refine va_get (ci := 2) (v := .ref (q 2)) (C := RX2) (T := TX2) (N := 4) hx hb hts hin2 hown hK.1 hP 0 rfl rfl 1 (by decide) hf15 (fun _ h9 => h9) rfl dX2_refresh_4 ?_
      refine va_alen hx hb hK.1 hP 2 2 rfl rfl (v := nI 4) rfl dX2_refresh_7 ?_
      refine lv_icmp_ge (tgt := 65) hx hb dX2_refresh_8 (by decide) (fun c8 => ?_) (fun c8 => ?_)
      · have c8 : 4 ≤ i2 := q_nge (by omega) (by omega) c8
        have e9 : i2 = 4 := by omega
        subst e9
        have hP := q_swpL (g := fun k => lN ((idxT b) k)) hP 1 rfl (fun k hk => congrArg lN (by have e7 := hT2 (k / 4) (by omega) (hG2 (k / 4) (by omega)) (k % 4) (by omega); rw [idxT, ← e7]; congr 1; omega))
        have hD := hD.set (p := 1) (a := q 1) (e := .inl (C.2.2.1, 16, .inr (.inl (fun k => lN ((idxT b) k))))) rfl
        have hP : va_P C.1 vwCl (([(q 0, .inr (2, [.ref (q 1), .ref (q 2), .ref (q 3), .ref (q 4)])), (q 1, .inl (C.2.2.1, 16, .inr (.inl (fun k => lN ((idxT b) k))))), (q 2, .inl (C.2.2.2.1, 4, .inl (fun k => nI (f2 k)))), (q 3, .inl (C.2.2.1, 4, .inr (.inl (fun k => lN (v2 k))))), (q 4, .inl (C.2.2.1, 4, .inr (.inl (fun k => lN (o2 k)))))] : va_W) ++ wB C a b) H := hP
        have hD : va_D (q_A (wX C q t f v o ++ wB C a b) s) (([(q 0, .inr (2, [.ref (q 1), .ref (q 2), .ref (q 3), .ref (q 4)])), (q 1, .inl (C.2.2.1, 16, .inr (.inl (fun k => lN ((idxT b) k))))), (q 2, .inl (C.2.2.2.1, 4, .inl (fun k => nI (f2 k)))), (q 3, .inl (C.2.2.1, 4, .inr (.inl (fun k => lN (v2 k))))), (q 4, .inl (C.2.2.1, 4, .inr (.inl (fun k => lN (o2 k)))))] : va_W) ++ wB C a b) := hD
        have hP := q_swpI (g := fun k => nI ((fun _ => 1) k)) hP 2 rfl (fun k hk => congrArg nI (show f2 k = 1 by have e7 := hG2 k hk; have e8 := hf2 k hk; omega))
        have hD := hD.set (p := 2) (a := q 2) (e := .inl (C.2.2.2.1, 4, .inl (fun k => nI ((fun _ => 1) k)))) rfl
        have hP : va_P C.1 vwCl (([(q 0, .inr (2, [.ref (q 1), .ref (q 2), .ref (q 3), .ref (q 4)])), (q 1, .inl (C.2.2.1, 16, .inr (.inl (fun k => lN ((idxT b) k))))), (q 2, .inl (C.2.2.2.1, 4, .inl (fun k => nI ((fun _ => 1) k)))), (q 3, .inl (C.2.2.1, 4, .inr (.inl (fun k => lN (v2 k))))), (q 4, .inl (C.2.2.1, 4, .inr (.inl (fun k => lN (o2 k)))))] : va_W) ++ wB C a b) H := hP
        have hD : va_D (q_A (wX C q t f v o ++ wB C a b) s) (([(q 0, .inr (2, [.ref (q 1), .ref (q 2), .ref (q 3), .ref (q 4)])), (q 1, .inl (C.2.2.1, 16, .inr (.inl (fun k => lN ((idxT b) k))))), (q 2, .inl (C.2.2.2.1, 4, .inl (fun k => nI ((fun _ => 1) k)))), (q 3, .inl (C.2.2.1, 4, .inr (.inl (fun k => lN (v2 k))))), (q 4, .inl (C.2.2.1, 4, .inr (.inl (fun k => lN (o2 k)))))] : va_W) ++ wB C a b) := hD
        have hP : va_P C.1 vwCl (wX C q (idxT b) (fun _ => 1) v2 o2 ++ wB C a b) H := hP
        have hD : va_D (q_A (wX C q t f v o ++ wB C a b) s) (wX C q (idxT b) (fun _ => 1) v2 o2 ++ wB C a b) := hD
        exact q_vret hx hb hr hlocks (w1 := wX C q (idxT b) (fun _ => 1) v2 o2 ++ wB C a b) hP hS rfl dX2_refresh_65 (⟨_, _, rfl, rfl⟩)
      · have c8 : i2 < 4 := q_nge' (by omega) (by omega) c8
        refine lv_aload_n hx hb dX2_refresh_11 rfl (lv_at hl 1 rfl) ?_
        refine va_get (ci := 2) (v := .ref (q 2)) (C := RX2) (T := TX2) (N := 4) hx hb hts hin2 hown hK.1 hP 0 rfl rfl 1 (by decide) hf15 (fun _ h9 => h9) rfl dX2_refresh_12 ?_
        refine lv_iload_n hx hb dX2_refresh_15 rfl (lv_at hl 0 rfl) ?_
        have hfi := hf2 i2 (by omega)
        refine q_zald (n := i2) (v := nI (f2 i2)) hx hb hK hP 2 rfl (by omega) (by decide) rfl dX2_refresh_16 ?_
        refine lv_if_ne (tgt := 59) hx hb dX2_refresh_17 (by decide) (fun c17 => ?_) (fun c17 => ?_)
        · have c17 : (f2 i2) ≠ 0 := q_nne0 (by omega) (by omega) c17
          refine lv_iinc (v := nI (i2 + 1)) (lv' := [(2, .int (nI (i2 + 1))), (0, .ref (q 0)), (1, .ref (a 0))]) hx hb dX2_refresh_59 hl (k := 0) rfl (nI_1 _) (by decide) rfl (fun ls hl => ?_)
          refine lv_goto (tgt := 2) hx hb dX2_refresh_62 (by decide) ?_
          exact ih2 (i2 + 1) t2 f2 v2 o2 (by omega) (by omega) hT2 hf2 (fun k hk => by
                by_cases e : k = i2
                · subst e; exact c17
                · exact hG2 k (by omega)) _ _ ls hP hD hS (lv_sub hl [0, 1, 2] rfl)
        · have c17 : (f2 i2) = 0 := q_nne0' (by omega) (by omega) c17
          refine lv_iconst (v := nI 0) hx hb dX2_refresh_20 (by decide) ?_
          refine lv_istore_n (lv' := [(3, .int (nI 0)), (2, .int (nI i2)), (0, .ref (q 0)), (1, .ref (a 0))]) hx hb dX2_refresh_21 rfl hl (by decide) rfl (fun ls hl => ?_)
          have K22 : ∀ (n22 i22 : Nat), ∀ (t22 : Nat → Nat) (v22 : Nat → Nat) (o22 : Nat → Nat), i22 ≤ 4 → 4 + 1 ≤ i22 + n22 → (∀ s', s' < i22 → t22 (4 * i2 + s') = idxN b i2 s') → (∀ k, k < 4 * i2 ∨ 4 * i2 + 4 ≤ k → t22 k = t2 k) → ∀ (H : Heap) (locs : List Loc) (ls : Array Slot), va_P C.1 vwCl (wX C q t22 f2 v22 o22 ++ wB C a b) H → va_D (q_A (wX C q t f v o ++ wB C a b) s) (wX C q t22 f2 v22 o22 ++ wB C a b) → va_S (q_A (wX C q t f v o ++ wB C a b) s) s.heap H locs → lv_has ls 4 [(3, .int (nI i22)), (2, .int (nI i2)), (0, .ref (q 0)), (1, .ref (a 0))] → W p l e (q_R 3 87) s m ([.ref (q 0), .ref (a 0)] : List Value).toArray below meth c H locs 0 0 (q_G C below (wX C q t f v o ++ wB C a b) (fun r w => ∃ v1 o1, r = none ∧ w = wX C q (idxT b) (fun _ => 1) v1 o1 ++ wB C a b) ([.ref (q 0), .ref (a 0)] : List Value).toArray s) (F0 m 22 ls []) := by
            intro n22
            induction n22 with
            | zero => intro i22 t22 v22 o22 q1 q2; exact absurd q2 (by omega)
            | succ n22 ih22 =>
              intro i22 t22 v22 o22 hi22 hn22 hA22 hB22 H locs ls hP hD hS hl
              refine lv_iload_n hx hb dX2_refresh_22 rfl (lv_at hl 0 rfl) ?_
              refine lv_iconst (v := nI 4) hx hb dX2_refresh_23 (by decide) ?_
              refine lv_icmp_ge (tgt := 52) hx hb dX2_refresh_24 (by decide) (fun c24 => ?_) (fun c24 => ?_)
              · have c24 : 4 ≤ i22 := q_nge (by omega) (by omega) c24
                have e9 : i22 = 4 := by omega
                subst e9
                refine lv_aload_n hx hb dX2_refresh_52 rfl (lv_at hl 2 rfl) ?_
                refine va_get (ci := 2) (v := .ref (q 2)) (C := RX2) (T := TX2) (N := 4) hx hb hts hin2 hown hK.1 hP 0 rfl rfl 1 (by decide) hf15 (fun _ h9 => h9) rfl dX2_refresh_53 ?_
                refine lv_iload_n hx hb dX2_refresh_56 rfl (lv_at hl 1 rfl) ?_
                refine lv_iconst (v := nI 1) hx hb dX2_refresh_57 (by decide) ?_
                refine q_zast (n := i2) hx hb hK hP hD hS 2 rfl (by omega) (by decide) (by decide) dX2_refresh_58 (fun H locs hP hD hS => ?_)
                rw [q_upd] at hP hD
                have hP : va_P C.1 vwCl (([(q 0, .inr (2, [.ref (q 1), .ref (q 2), .ref (q 3), .ref (q 4)])), (q 1, .inl (C.2.2.1, 16, .inr (.inl (fun k => lN (t22 k))))), (q 2, .inl (C.2.2.2.1, 4, .inl (fun k => nI (upN f2 i2 1 k)))), (q 3, .inl (C.2.2.1, 4, .inr (.inl (fun k => lN (v22 k))))), (q 4, .inl (C.2.2.1, 4, .inr (.inl (fun k => lN (o22 k)))))] : va_W) ++ wB C a b) H := hP
                have hD : va_D (q_A (wX C q t f v o ++ wB C a b) s) (([(q 0, .inr (2, [.ref (q 1), .ref (q 2), .ref (q 3), .ref (q 4)])), (q 1, .inl (C.2.2.1, 16, .inr (.inl (fun k => lN (t22 k))))), (q 2, .inl (C.2.2.2.1, 4, .inl (fun k => nI (upN f2 i2 1 k)))), (q 3, .inl (C.2.2.1, 4, .inr (.inl (fun k => lN (v22 k))))), (q 4, .inl (C.2.2.1, 4, .inr (.inl (fun k => lN (o22 k)))))] : va_W) ++ wB C a b) := hD
                refine lv_iinc (v := nI (i2 + 1)) (lv' := [(2, .int (nI (i2 + 1))), (3, .int (nI 4)), (0, .ref (q 0)), (1, .ref (a 0))]) hx hb dX2_refresh_59 hl (k := 1) rfl (nI_1 _) (by decide) rfl (fun ls hl => ?_)
                refine lv_goto (tgt := 2) hx hb dX2_refresh_62 (by decide) ?_
                exact ih2 (i2 + 1) t22 (upN f2 i2 1) v22 o22 (by omega) (by omega) (fun k hk hn s' hs => by
                      by_cases e : k = i2
                      · subst e; exact hA22 s' (by omega)
                      · rw [hB22 _ (by omega)]; exact hT2 k hk (by rw [upN_n e] at hn; exact hn) s' hs) (fun k hk => by
                      by_cases e : k = i2
                      · subst e; rw [upN_s]; exact Nat.le_refl 1
                      · rw [upN_n e]; exact hf2 k hk) (fun k hk => by
                      by_cases e : k = i2
                      · subst e; rw [upN_s]; decide
                      · rw [upN_n e]; exact hG2 k (by omega)) _ _ ls hP hD hS (lv_sub hl [0, 2, 3] rfl)
              · have c24 : i22 < 4 := q_nge' (by omega) (by omega) c24
                refine lv_aload_n hx hb dX2_refresh_27 rfl (lv_at hl 2 rfl) ?_
                refine va_get (ci := 2) (v := .ref (q 1)) (C := RX2) (T := TX2) (N := 4) hx hb hts hin2 hown hK.1 hP 0 rfl rfl 0 (by decide) hf9 (fun _ h9 => h9) rfl dX2_refresh_28 ?_
                refine lv_iload_n hx hb dX2_refresh_31 rfl (lv_at hl 1 rfl) ?_
                refine lv_iload_n hx hb dX2_refresh_32 rfl (lv_at hl 0 rfl) ?_
                refine q_N (As := [.int (nI i2), .int (nI i22)]) (rest := [.ref (q 1)]) ⟨hx, hb, hml, hown, hts⟩ (c_X4_slotOf l C i2 i22) ⟨va_cnB 2 hts gX2_refresh_X4_slotOf_n25 rfl rfl rfl (q_nw hK 3 rfl) (hts (.initialized RX4) (by decide +kernel)) (by decide +kernel) ⟨Nat.le_of_ble_eq_true rfl, Nat.le_of_ble_eq_true rfl⟩, hts (.static yX4_slotOf) (by decide +kernel), trivial⟩ hK hP hD hS hA [] (by decide) rfl rfl hl.1 rfl (Nat.le_of_ble_eq_true rfl) dX2_refresh_33 (Nat.zero_le _) (Nat.zero_le _) (fun r w1 H locs hQ hP hD hS => ?_)
                obtain ⟨rfl, rfl⟩ := hQ
                refine W.eq (g2 := F0 m 36 ls [.int (nI (4 * i2 + i22)), .ref (q 1)]) rfl ?_
                refine lv_aload_n hx hb dX2_refresh_36 rfl (lv_at hl 2 rfl) ?_
                refine lv_aload_n hx hb dX2_refresh_37 rfl (lv_at hl 3 rfl) ?_
                refine lv_iload_n hx hb dX2_refresh_38 rfl (lv_at hl 1 rfl) ?_
                refine lv_iload_n hx hb dX2_refresh_39 rfl (lv_at hl 0 rfl) ?_
                refine q_V (As := [.ref (a 0), .int (nI i2), .int (nI i22)]) (rest := [.int (nI (4 * i2 + i22)), .ref (q 1)]) ⟨hx, hb, hml, hown, hts⟩ (c_X2_find l C q t22 f2 v22 o22 a b i2 i22 hB (by omega) (by omega)) (cwV 3 hts gX2_refresh_X2_find rfl rfl rfl (by decide +kernel) ⟨Nat.le_of_ble_eq_true rfl, Nat.le_of_ble_eq_true rfl⟩) hK hP hD hS hA [0, 1, 2, 3, 4, 5, 6, 7, 8, 9, 10, 11, 12] (by decide) rfl 0 rfl rfl rfl rfl hl.1 rfl (Nat.le_of_ble_eq_true rfl) dX2_refresh_40 (Nat.zero_le _) (Nat.zero_le _) (fun r w1 H locs hQ hP hD hS => ?_)
                obtain ⟨rfl, rfl⟩ := hQ
                have hP : va_P C.1 vwCl (wX C q t22 f2 (valsN b i2 i22 (bs b 1)) (ownsN b i2 i22 o22 (bs b 1)) ++ wB C a b) H := hP
                have hD : va_D (q_A (wX C q t f v o ++ wB C a b) s) (wX C q t22 f2 (valsN b i2 i22 (bs b 1)) (ownsN b i2 i22 o22 (bs b 1)) ++ wB C a b) := hD
                refine W.eq (g2 := F0 m 43 ls [.long (lN (idxN b i2 i22)), .int (nI (4 * i2 + i22)), .ref (q 1)]) rfl ?_
                refine q_N (As := [.ref (q 1), .int (nI (4 * i2 + i22)), .long (lN (idxN b i2 i22))]) (rest := []) ⟨hx, hb, hml, hown, hts⟩ (c_X4_store_ l C (q 1) 16 (4 * i2 + i22) (fun k => lN (t22 k)) (lN (idxN b i2 i22)) (by omega) (by decide)) ⟨va_cnB 3 hts gX2_refresh_X4_store__n33 rfl rfl rfl (q_nw hK 4 rfl) (hts (.initialized RX4) (by decide +kernel)) (by decide +kernel) ⟨Nat.le_of_ble_eq_true rfl, Nat.le_of_ble_eq_true rfl⟩, hts (.static yX4_store_) (by decide +kernel), trivial⟩ hK hP hD hS hA [1] (by decide) rfl rfl hl.1 rfl (Nat.le_of_ble_eq_true rfl) dX2_refresh_43 (Nat.zero_le _) (Nat.zero_le _) (fun r w1 H locs hQ hP hD hS => ?_)
                obtain ⟨rfl, rfl⟩ := hQ
                rw [q_updL] at hP hD
                have hP : va_P C.1 vwCl (([(q 0, .inr (2, [.ref (q 1), .ref (q 2), .ref (q 3), .ref (q 4)])), (q 1, .inl (C.2.2.1, 16, .inr (.inl (fun k => lN (upN t22 (4 * i2 + i22) (idxN b i2 i22) k))))), (q 2, .inl (C.2.2.2.1, 4, .inl (fun k => nI (f2 k)))), (q 3, .inl (C.2.2.1, 4, .inr (.inl (fun k => lN ((valsN b i2 i22 (bs b 1)) k))))), (q 4, .inl (C.2.2.1, 4, .inr (.inl (fun k => lN ((ownsN b i2 i22 o22 (bs b 1)) k)))))] : va_W) ++ wB C a b) H := hP
                have hD : va_D (q_A (wX C q t f v o ++ wB C a b) s) (([(q 0, .inr (2, [.ref (q 1), .ref (q 2), .ref (q 3), .ref (q 4)])), (q 1, .inl (C.2.2.1, 16, .inr (.inl (fun k => lN (upN t22 (4 * i2 + i22) (idxN b i2 i22) k))))), (q 2, .inl (C.2.2.2.1, 4, .inl (fun k => nI (f2 k)))), (q 3, .inl (C.2.2.1, 4, .inr (.inl (fun k => lN ((valsN b i2 i22 (bs b 1)) k))))), (q 4, .inl (C.2.2.1, 4, .inr (.inl (fun k => lN ((ownsN b i2 i22 o22 (bs b 1)) k)))))] : va_W) ++ wB C a b) := hD
                refine W.eq (g2 := F0 m 46 ls []) rfl ?_
                refine lv_iinc (v := nI (i22 + 1)) (lv' := [(3, .int (nI (i22 + 1))), (2, .int (nI i2)), (0, .ref (q 0)), (1, .ref (a 0))]) hx hb dX2_refresh_46 hl (k := 0) rfl (nI_1 _) (by decide) rfl (fun ls hl => ?_)
                refine lv_goto (tgt := 22) hx hb dX2_refresh_49 (by decide) ?_
                exact ih22 (i22 + 1) (upN t22 (4 * i2 + i22) (idxN b i2 i22)) (valsN b i2 i22 (bs b 1)) (ownsN b i2 i22 o22 (bs b 1)) (by omega) (by omega) (fun s' hs => by
                      by_cases e : s' = i22
                      · subst e; exact upN_s _ _ _
                      · rw [upN_n (by omega)]; exact hA22 s' (by omega)) (fun k hk => by rw [upN_n (by omega)]; exact hB22 k hk) _ _ ls hP hD hS (lv_sub hl [0, 1, 2, 3] rfl)
          exact K22 (4 + 1 - 0) 0 t2 v2 o2 (by omega) (by omega) (fun s' hs => absurd hs (Nat.not_lt_zero _)) (fun _ _ => rfl) _ _ ls hP hD hS (lv_sub hl [0, 1, 2, 3] rfl)
  exact K2 (4 + 1 - 0) 0 t f v o (by omega) (by omega) hT hf (fun k hk => absurd hk (Nat.not_lt_zero _)) _ _ ls hP hD hS (lv_sub hl [0, 1, 2] rfl)
end
section
/-! the saved boards: rows of references -/
theorem q_cellR {c : ClassId} {N : Nat} {f g : Nat → Option Nat} (h : ∀ k, k < N → f k = g k) : vp_cell c (N, .inr (.inr (.inr (.inr f)))) = vp_cell c (N, .inr (.inr (.inr (.inr g)))) := by
  show arrV c N (fun j => va_rf (f j)) = arrV c N (fun j => va_rf (g j))
  unfold arrV
  congr 2
  funext j
  exact congrArg va_rf (h j.1 j.2)
theorem q_swpR {D : va_G} {cl : List vw_C} {X : va_W} {H : Heap} {a N : Nat} {c : ClassId} {f g : Nat → Option Nat} (hP : va_P D cl X H) (q0 : Nat) (ha : X[q0]? = some (a, .inl (c, N, .inr (.inr (.inr (.inr f)))))) (h : ∀ k, k < N → f k = g k) : va_P D cl (X.set q0 (a, .inl (c, N, .inr (.inr (.inr (.inr g)))))) H := q_swp hP ha (q_cellR h)
theorem q_r6 {P : Nat → Prop} (h0 : P 0) (h1 : P 1) (h2 : P 2) (h3 : P 3) (h4 : P 4) (h5 : P 5) : ∀ k, k < 6 → P k := by
  intro k hk
  match k, hk with
  | 0, _ => exact h0
  | 1, _ => exact h1
  | 2, _ => exact h2
  | 3, _ => exact h3
  | 4, _ => exact h4
  | 5, _ => exact h5
section QRef
variable {p : Program} {l : Launch} {e : Env} {R : Room} {s : State} {m : MethodId} {args : Array Value} {below : List Frame} {meth : Method} {c : Code} {H : Heap} {locs : List Loc} {cells slots : Nat} {Q : State → Prop}
variable {cc : ByteArray} {pc : Nat} {ls : Array Slot} {rest : List Value} {C : q_C} {X : va_W} {A : Nat → Prop} {H0 : Heap} {a : Nat}
theorem q_aald {n N v : Nat} {f : Nat → Option Nat} (hx : p.tables.exec = Jvm.exec) (hb : c.code = cc) (hK : q_K C s) (hP : va_P C.1 vwCl X H) (q0 : Nat) (ha : X[q0]? = some (a, .inl (C.2.2.2.2, N, .inr (.inr (.inr (.inr f)))))) (hn : n < N) (hN : N < 2 ^ 31) (hv : f n = some v) (hdg : decode cc pc = .ok (.aaload, 1))
    (kk : W p l e R s m args below meth c H locs cells slots Q (F0 m (pc + 1) ls (.ref v :: rest))) : W p l e R s m args below meth c H locs cells slots Q (F0 m pc ls (.int (nI n) :: .ref a :: rest)) := by
  refine va_aldq hx hb hK.1 hP q0 3 ha rfl (vp_in_nI hn hN) hdg ?_
  rw [nI_clamp (by omega), hv]
  exact kk
theorem q_aast {n N v : Nat} {f : Nat → Option Nat} {vs : List Value} (hx : p.tables.exec = Jvm.exec) (hb : c.code = cc) (hK : q_K C s) (hP : va_P C.1 vwCl X H) (hD : va_D A X) (hS : va_S A H0 H locs) (q0 qk : Nat) (ha : X[q0]? = some (a, .inl (C.2.2.2.2, N, .inr (.inr (.inr (.inr f)))))) (hv : X[qk]? = some (v, .inr (0, vs))) (hn : n < N) (hN : N < 2 ^ 31) (hdg : decode cc pc = .ok (.aastore, 1))
    (kk : ∀ (H1 : Heap) (locs1 : List Loc), va_P C.1 vwCl (X.set q0 (a, .inl (C.2.2.2.2, N, .inr (.inr (.inr (.inr (va_up f n (some v)))))))) H1 → va_D A (X.set q0 (a, .inl (C.2.2.2.2, N, .inr (.inr (.inr (.inr (va_up f n (some v)))))))) → va_S A H0 H1 locs1 → W p l e R s m args below meth c H1 locs1 cells slots Q (F0 m (pc + 1) ls rest)) : W p l e R s m args below meth c H locs cells slots Q (F0 m pc ls (.ref v :: .int (nI n) :: .ref a :: rest)) := by
  refine va_astq hx hb hK.1 hP hD hS q0 3 qk 0 (r := (RX0, TX0, 12)) ha rfl hv rfl (vp_in_nI hn hN) hdg ?_
  rw [nI_clamp (by omega)]
  exact kk
end QRef
/-- the history's own two cells: count, and the row of the saved boards, turned by r -/
abbrev wHa (C : q_C) (hq : Nat → Nat) (ba : Nat → Nat → Nat) (r n : Nat) : va_W := [(hq 0, .inr (1, [.ref (hq 1), .int (nI n)])), (hq 1, .inl (C.2.2.2.2, 6, .inr (.inr (.inr (.inr (fun k => some (ba ((k + r) % 6) 0)))))))]
def upB (ph : Nat → Bd) (k : Nat) (x : Bd) : Nat → Bd := fun j => if j = k then x else ph j
theorem upB_s (ph : Nat → Bd) (k : Nat) (x : Bd) : upB ph k x k = x := by simp [upB]
theorem upB_n {ph : Nat → Bd} {k j : Nat} {x : Bd} (h : j ≠ k) : upB ph k x j = ph j := by simp [upB, h]
/-- the six boards -/
abbrev wBs (C : q_C) (ba : Nat → Nat → Nat) (ph : Nat → Bd) : va_W := wB C (ba 0) (ph 0) ++ wB C (ba 1) (ph 1) ++ wB C (ba 2) (ph 2) ++ wB C (ba 3) (ph 3) ++ wB C (ba 4) (ph 4) ++ wB C (ba 5) (ph 5)
def kR (n r : Nat) : Nat := if n < 6 then r else (r + 1) % 6
def kC (n : Nat) : Nat := if n < 6 then n + 1 else 6
def kJ (n r : Nat) : Nat := if n < 6 then (n + r) % 6 else r
end
section
/-! worlds of many blocks: a call's blocks are put back as blocks; what is only read stays as it stands -/
theorem q_put_id : ∀ {is : List Nat} {X wc : va_W}, is.map (fun i => X[i]?) = wc.map some → q_put X is wc = X
  | [], X, [], _ => rfl
  | [], _, _ :: _, h => by simp at h
  | _ :: _, _, [], h => by simp at h
  | i :: is, X, c :: cs, h => by
    simp only [List.map_cons, List.cons.injEq] at h
    have hs : X.set i c = X := by
      obtain ⟨hi, hc⟩ := List.getElem?_eq_some_iff.mp h.1
      rw [← hc, List.set_getElem_self]
    rw [q_put, hs]
    exact q_put_id h.2
def q_pb (Bs : List va_W) : List Nat → List va_W → List va_W
  | i :: is, d :: ds => q_pb (Bs.set i d) is ds
  | _, _ => Bs
theorem q_pb_get : ∀ (is : List Nat) (ds Bs : List va_W) (k : Nat) (B : va_W), is.length = ds.length → (q_pb Bs is ds)[k]? = some B → B ∈ ds ∨ (k ∉ is ∧ Bs[k]? = some B)
  | [], [], _, _, _, _, h => Or.inr ⟨List.not_mem_nil, h⟩
  | [], _ :: _, _, _, _, hl, _ => by simp at hl
  | _ :: _, [], _, _, _, hl, _ => by simp at hl
  | i :: is, d :: ds, Bs, k, B, hl, h => by
    rw [q_pb] at h
    rcases q_pb_get is ds (Bs.set i d) k B (by simpa using hl) h with h1 | ⟨h1, h2⟩
    · exact Or.inl (List.mem_cons_of_mem _ h1)
    · by_cases hk : k = i
      · subst hk
        have hlt := (List.getElem?_eq_some_iff.mp h2).1
        rw [List.length_set] at hlt
        rw [List.getElem?_set_self hlt] at h2
        cases h2
        exact Or.inl List.mem_cons_self
      · rw [List.getElem?_set_ne (Ne.symm hk)] at h2
        exact Or.inr ⟨fun hm => (List.mem_cons.mp hm).elim hk h1, h2⟩
theorem q_pb_fst : ∀ (is : List Nat) (ds cs Bs : List va_W), va_nd is = true → is.map (fun i => Bs[i]?) = cs.map some → ds.map (fun d => d.map Prod.fst) = cs.map (fun d => d.map Prod.fst) → (q_pb Bs is ds).map (fun d => d.map Prod.fst) = Bs.map (fun d => d.map Prod.fst)
  | [], _, _, _, _, _, _ => by simp [q_pb]
  | _ :: _, [], _, _, _, _, _ => by simp [q_pb]
  | i :: is, d :: ds, [], _, _, h, _ => by simp at h
  | i :: is, d :: ds, c :: cs, Bs, hn, hC, hf => by
    simp only [List.map_cons, List.cons.injEq] at hC hf
    simp only [va_nd, Bool.and_eq_true, decide_eq_true_eq] at hn
    have h1 : (Bs.set i d).map (fun d => d.map Prod.fst) = Bs.map (fun d => d.map Prod.fst) := by
      obtain ⟨hi, hc⟩ := List.getElem?_eq_some_iff.mp hC.1
      rw [List.map_set, hf.1, ← hc, ← List.getElem_map (fun d : va_W => d.map Prod.fst) (h := by simpa using hi), List.set_getElem_self]
    rw [q_pb, q_pb_fst is ds cs (Bs.set i d) hn.2 ?_ hf.2, h1]
    rw [← hC.2]
    apply List.map_congr_left
    intro j hj
    rw [List.getElem?_set_ne (fun e => hn.1 (by rw [e]; exact hj))]
theorem q_ndf : ∀ {L : List (List Nat)}, L.flatten.Nodup → ∀ {i k : Nat} {x y : List Nat} {a : Nat}, L[i]? = some x → L[k]? = some y → i ≠ k → a ∈ x → a ∈ y → False
  | [], _, _, _, _, _, _, h, _, _, _, _ => by simp at h
  | B :: L, hn, i, k, x, y, a, hi, hk, hne, hx, hy => by
    rw [List.flatten_cons, List.nodup_append] at hn
    cases i with
    | zero =>
      cases k with
      | zero => exact hne rfl
      | succ k =>
        rw [List.getElem?_cons_zero] at hi
        cases hi
        rw [List.getElem?_cons_succ] at hk
        exact hn.2.2 a hx a (List.mem_flatten.mpr ⟨y, List.mem_of_getElem? hk, hy⟩) rfl
    | succ i =>
      cases k with
      | zero =>
        rw [List.getElem?_cons_zero] at hk
        cases hk
        rw [List.getElem?_cons_succ] at hi
        exact hn.2.2 a hy a (List.mem_flatten.mpr ⟨x, List.mem_of_getElem? hi, hx⟩) rfl
      | succ k =>
        rw [List.getElem?_cons_succ] at hi hk
        exact q_ndf hn.2.1 hi hk (fun e => hne (by rw [e])) hx hy
theorem q_P_mem {D : va_G} {cl : List vw_C} {ws : va_W} {H : Heap} : va_P D cl ws H ↔ ∀ q ∈ ws, va_at D cl q H :=
  ⟨fun h q hq => by obtain ⟨k, hk⟩ := List.getElem?_of_mem hq; exact h k q hk, fun h k q hk => h q (List.mem_of_getElem? hk)⟩
theorem q_D_nd {A : Nat → Prop} {ws : va_W} : va_D A ws ↔ (ws.map Prod.fst).Nodup ∧ ∀ a ∈ ws.map Prod.fst, A a := by
  constructor
  · intro h
    refine ⟨?_, fun a ha => ?_⟩
    · refine List.pairwise_iff_getElem.mpr (fun i j hi hj hij e => ?_)
      rw [List.length_map] at hi hj
      rw [List.getElem_map, List.getElem_map] at e
      have := h.1 i j _ _ (List.getElem?_eq_getElem hi) (List.getElem?_eq_getElem hj) e
      omega
    · obtain ⟨q, hq, rfl⟩ := List.mem_map.mp ha
      obtain ⟨k, hk⟩ := List.getElem?_of_mem hq
      exact h.2 k q hk
  · intro h
    refine ⟨fun i j p q hi hj e => ?_, fun k q hk => h.2 _ (List.mem_map.mpr ⟨q, List.mem_of_getElem? hk, rfl⟩)⟩
    obtain ⟨hil, hie⟩ := List.getElem?_eq_some_iff.mp hi
    obtain ⟨hjl, hje⟩ := List.getElem?_eq_some_iff.mp hj
    have hn := List.pairwise_iff_getElem.mp h.1
    rcases Nat.lt_trichotomy i j with g | g | g
    · exact absurd (by rw [List.getElem_map, List.getElem_map, hie, hje]; exact e) (hn i j (by rw [List.length_map]; exact hil) (by rw [List.length_map]; exact hjl) g)
    · exact g
    · exact absurd (by rw [List.getElem_map, List.getElem_map, hie, hje]; exact e.symm) (hn j i (by rw [List.length_map]; exact hjl) (by rw [List.length_map]; exact hil) g)
theorem q_D_eq {A : Nat → Prop} {ws w1 : va_W} (h : va_D A ws) (e : w1.map Prod.fst = ws.map Prod.fst) : va_D A w1 := by
  rw [q_D_nd] at h ⊢
  rw [e]
  exact h
theorem q_pb_back {D : va_G} {cl : List vw_C} {A0 : Nat → Prop} {Bs cs ds : List va_W} {H H1 : Heap} (hP : va_P D cl Bs.flatten H) (hD : va_D A0 Bs.flatten) (is : List Nat) (hnd : va_nd is = true) (hC : is.map (fun i => Bs[i]?) = cs.map some) (hN : ds.map (fun d => d.map Prod.fst) = cs.map (fun d => d.map Prod.fst))
    (hk : ∀ q : Nat, q < H.size → ¬ va_A cs.flatten H.size q → H1[q]? = H[q]?) (hP1 : va_P D cl ds.flatten H1) : va_P D cl (q_pb Bs is ds).flatten H1 ∧ va_D A0 (q_pb Bs is ds).flatten := by
  have hlen : is.length = ds.length := by
    have a := congrArg List.length hC
    have b := congrArg List.length hN
    simp only [List.length_map] at a b
    omega
  have hfst := q_pb_fst is ds cs Bs hnd hC hN
  have hff : (q_pb Bs is ds).flatten.map Prod.fst = Bs.flatten.map Prod.fst := by
    rw [List.map_flatten, List.map_flatten, hfst]
  have hnod : (Bs.map (fun d => d.map Prod.fst)).flatten.Nodup := by
    have := (q_D_nd.mp hD).1
    rw [List.map_flatten] at this
    exact this
  refine ⟨?_, q_D_eq hD hff⟩
  rw [q_P_mem] at hP hP1 ⊢
  intro q hq
  obtain ⟨B, hB, hqB⟩ := List.mem_flatten.mp hq
  obtain ⟨k, hkB⟩ := List.getElem?_of_mem hB
  rcases q_pb_get is ds Bs k B hlen hkB with h1 | ⟨h1, h2⟩
  · exact hP1 q (List.mem_flatten.mpr ⟨B, h1, hqB⟩)
  · have h0 := hP q (List.mem_flatten.mpr ⟨B, List.mem_of_getElem? h2, hqB⟩)
    refine h0.kept (hk q.1 h0.lt ?_)
    rintro (⟨j, c, hj⟩ | hge)
    · obtain ⟨c0, hc0, hqc⟩ := List.mem_flatten.mp (List.mem_of_getElem? hj)
      obtain ⟨i0, hi0⟩ := List.getElem?_of_mem hc0
      have hx : (is.map (fun i => Bs[i]?))[i0]? = some (some c0) := by rw [hC, List.getElem?_map, hi0]; rfl
      rw [List.getElem?_map] at hx
      cases hi : is[i0]? with
      | none => rw [hi] at hx; cases hx
      | some i =>
        rw [hi] at hx
        have hx : Bs[i]? = some c0 := Option.some.inj hx
        exact q_ndf hnod (i := k) (k := i) (x := B.map Prod.fst) (y := c0.map Prod.fst) (a := q.1) (by rw [List.getElem?_map, h2]; rfl) (by rw [List.getElem?_map, hx]; rfl) (fun e => h1 (by rw [e]; exact List.mem_of_getElem? hi)) (List.mem_map.mpr ⟨q, hqB, rfl⟩) (List.mem_map.mpr ⟨(q.1, c), hqc, rfl⟩)
    · exact absurd h0.lt (Nat.not_lt.mpr hge)
theorem q_fset : ∀ (Bs : List va_W) (i j k : Nat) {B : va_W} {c : Nat × va_E}, Bs[i]? = some B → j < B.length → ((Bs.take i).map List.length).sum + j = k → Bs.flatten.set k c = (Bs.set i (B.set j c)).flatten
  | [], i, _, _, _, _, h, _, _ => by simp at h
  | X :: Bs, 0, j, k, B, c, h, hj, hk => by
    rw [List.getElem?_cons_zero] at h
    cases h
    simp only [List.take_zero, List.map_nil, List.sum_nil, Nat.zero_add] at hk
    subst hk
    rw [List.set_cons_zero, List.flatten_cons, List.flatten_cons, List.set_append_left _ _ hj]
  | X :: Bs, i + 1, j, k, B, c, h, hj, hk => by
    rw [List.getElem?_cons_succ] at h
    simp only [List.take_succ_cons, List.map_cons, List.sum_cons] at hk
    rw [List.set_cons_succ, List.flatten_cons, List.flatten_cons, List.set_append_right _ _ (by omega)]
    rw [q_fset Bs i j (k - X.length) h hj (by omega)]
section QBlk
variable {p : Program} {l : Launch} {e : Env} {R : Room} {s : State} {m : MethodId} {args : Array Value} {below : List Frame} {meth : Method} {c : Code} {H : Heap} {locs : List Loc} {cells slots : Nat} {Q : State → Prop}
variable {pc : Nat} {ls : Array Slot} {rest st0 : List Value} {a : Array Value} {A0 : Nat → Prop} {H0 : Heap}
variable {C : q_C} {X wc : va_W} {Bs cs : List va_W} {Qm : Option Value → va_W → Prop} {cc bytes : ByteArray} {nL maxL index n fr lo : Nat} {Ts wM : List Cond} {own CC host : String} {y : MethodName} {ret : Option FieldType} {As : List Value} {b : Nat} {r0 : Option Value}
theorem q_callB (hr : va_Run p l e R s m args below meth c H locs cells slots 0 0 (F0 m pc ls st0) rest (q_Qc C cs.flatten H.size Qm a) (va_A cs.flatten H.size)) (hP : va_P C.1 vwCl Bs.flatten H) (hD : va_D A0 Bs.flatten) (hS : va_S A0 H0 H locs) (hA : ∀ q, H0.size ≤ q → A0 q)
    (is : List Nat) (hnd : va_nd is = true) (hC : is.map (fun i => Bs[i]?) = cs.map some)
    (kk : ∀ (r : Option Value) (w1 : va_W) (H1 : Heap) (locs1 : List Loc), Qm r w1 → (∀ ds : List va_W, w1 = ds.flatten → ds.map (fun d => d.map Prod.fst) = cs.map (fun d => d.map Prod.fst) → va_P C.1 vwCl (q_pb Bs is ds).flatten H1 ∧ va_D A0 (q_pb Bs is ds).flatten) → va_S A0 H0 H1 locs1 → W p l e R s m args below meth c H1 locs1 cells slots Q (F0 m (pc + 3) ls (r.toList ++ rest))) : W p l e R s m args below meth c H locs cells slots Q (F0 m pc ls st0) := by
  intro T hT X0
  obtain ⟨v, st₀, t, T', L, h0, X', hL, e1, e2, ⟨⟨r, w1, hv, hq, hn, hp⟩, hz, hk⟩, st⟩ := hr T hT X0
  cases hv
  rw [h0] at hz hk
  have hf : ∀ q, va_A cs.flatten H.size q → A0 q := by
    rintro q (⟨j, x, hj⟩ | hge)
    · obtain ⟨c0, hc0, hqc⟩ := List.mem_flatten.mp (List.mem_of_getElem? hj)
      have hcB : c0 ∈ Bs := by
        obtain ⟨i0, hi0⟩ := List.getElem?_of_mem hc0
        have hx : (is.map (fun i => Bs[i]?))[i0]? = some (some c0) := by rw [hC, List.getElem?_map, hi0]; rfl
        rw [List.getElem?_map] at hx
        cases hi : is[i0]? with
        | none => rw [hi] at hx; cases hx
        | some i => rw [hi] at hx; exact List.mem_of_getElem? (Option.some.inj hx)
      exact (q_D_nd.mp hD).2 q (List.mem_map.mpr ⟨(q, x), List.mem_flatten.mpr ⟨c0, hcB, hqc⟩, rfl⟩)
    · exact hA q (Nat.le_trans hS.1 hge)
  obtain ⟨t2, a1, b1⟩ := kk v w1 T'.heap (locs ++ L) hq (fun ds hds hdn => by
      subst hds
      exact q_pb_back hP hD is hnd hC hdn (fun q h1 h2 => by rw [e1]; exact hk q h1 h2) (by rw [e1]; exact hp)) ⟨Nat.le_trans hS.1 (by rw [e1]; exact hz), fun q h1 h2 => by
      rw [e1, hk q (Nat.lt_of_lt_of_le h1 hS.1) (fun h3 => h2 (hf q h3))]
      exact hS.2.1 q h1 h2, fun x hx => (List.mem_append.mp hx).elim (fun h => hS.2.2 x h) (fun h => hf _ (hL x h))⟩ T' rfl X'
  exact ⟨t2, st t2 a1, b1⟩
theorem q_VB (S : CallFix p m c cc nL s args Ts own) (hM : q_M C l y wM fr lo (.ref b :: As) cs.flatten Qm) (cw : CallW R s args own CC index y bytes maxL ret wM (q_R fr lo) 0 0 n) (hK : q_K C s) (hP : va_P C.1 vwCl Bs.flatten H) (hD : va_D A0 Bs.flatten) (hS : va_S A0 H0 H locs) (hA : ∀ q, H0.size ≤ q → A0 q)
    (is : List Nat) (hnd : va_nd is = true) (hC : is.map (fun i => Bs[i]?) = cs.map some) (q0 : Nat) {ci : Nat} {fs : List Value} {q : vw_C} (he : Bs.flatten[q0]? = some (b, .inr (ci, fs))) (hc : vwCl[ci]? = some q) (hq : q.1 = CC)
    (hn : As.length = n) (hsize : ls.size = nL) (hstack : st0 = As.reverse ++ .ref b :: rest) (hW : (rest.map fun v => v.category).sum ≤ 8) (hdg : decode cc pc = .ok (.invokevirtual index, 3)) (hce : cells ≤ R.cells) (hsl : slots ≤ R.slots)
    (kk : ∀ (r : Option Value) (w1 : va_W) (H1 : Heap) (locs1 : List Loc), Qm r w1 → (∀ ds : List va_W, w1 = ds.flatten → ds.map (fun d => d.map Prod.fst) = cs.map (fun d => d.map Prod.fst) → va_P C.1 vwCl (q_pb Bs is ds).flatten H1 ∧ va_D A0 (q_pb Bs is ds).flatten) → va_S A0 H0 H1 locs1 → W p l e R s m args below meth c H1 locs1 cells slots Q (F0 m (pc + 3) ls (r.toList ++ rest))) : W p l e R s m args below meth c H locs cells slots Q (F0 m pc ls st0) := by
  have hsub : ∀ c0 ∈ cs, ∃ i ∈ is, Bs[i]? = some c0 := by
    intro c0 hc0
    obtain ⟨i0, hi0⟩ := List.getElem?_of_mem hc0
    have hx : (is.map (fun i => Bs[i]?))[i0]? = some (some c0) := by rw [hC, List.getElem?_map, hi0]; rfl
    rw [List.getElem?_map] at hx
    cases hi : is[i0]? with
    | none => rw [hi] at hx; cases hx
    | some i => rw [hi] at hx; exact ⟨i, List.mem_of_getElem? hi, Option.some.inj hx⟩
  have hPc : va_P C.1 vwCl cs.flatten H := by
    rw [q_P_mem] at hP ⊢
    intro x hx
    obtain ⟨c0, hc0, hxc⟩ := List.mem_flatten.mp hx
    obtain ⟨i, -, hi⟩ := hsub c0 hc0
    exact hP x (List.mem_flatten.mpr ⟨c0, List.mem_of_getElem? hi, hxc⟩)
  have hDc : va_D (fun _ => True) cs.flatten := by
    rw [q_D_nd]
    refine ⟨?_, fun _ _ => trivial⟩
    have hnod : (Bs.map (fun d => d.map Prod.fst)).flatten.Nodup := by
      have := (q_D_nd.mp hD).1
      rw [List.map_flatten] at this
      exact this
    rw [List.map_flatten]
    have key : ∀ (is : List Nat) (cs : List va_W), va_nd is = true → is.map (fun i => Bs[i]?) = cs.map some → (cs.map (fun d => d.map Prod.fst)).flatten.Nodup := by
      intro is
      induction is with
      | nil => intro cs _ h; cases cs with
        | nil => simp
        | cons => simp at h
      | cons i is ih =>
        intro cs hn h
        cases cs with
        | nil => simp at h
        | cons c0 cs =>
          simp only [List.map_cons, List.cons.injEq] at h
          simp only [va_nd, Bool.and_eq_true, decide_eq_true_eq] at hn
          rw [List.map_cons, List.flatten_cons, List.nodup_append]
          refine ⟨?_, ih cs hn.2 h.2, fun x hx z hz e => ?_⟩
          · have hmem : c0.map Prod.fst ∈ Bs.map (fun d => d.map Prod.fst) := List.mem_map.mpr ⟨c0, List.mem_of_getElem? h.1, rfl⟩
            clear h hn ih
            generalize Bs.map (fun d => d.map Prod.fst) = LL at hnod hmem
            induction LL with
            | nil => simp at hmem
            | cons Y LL ih2 =>
              rw [List.flatten_cons, List.nodup_append] at hnod
              rcases List.mem_cons.mp hmem with h9 | h9
              · rw [h9]; exact hnod.1
              · exact ih2 hnod.2.1 h9
          · obtain ⟨d0, hd0, hzd⟩ := List.mem_flatten.mp hz
            obtain ⟨c1, hc1, rfl⟩ := List.mem_map.mp hd0
            obtain ⟨i1, hi1⟩ := List.getElem?_of_mem hc1
            have hx1 : (is.map (fun i => Bs[i]?))[i1]? = some (some c1) := by rw [h.2, List.getElem?_map, hi1]; rfl
            rw [List.getElem?_map] at hx1
            cases hii : is[i1]? with
            | none => rw [hii] at hx1; cases hx1
            | some k =>
              rw [hii] at hx1
              have hx1 : Bs[k]? = some c1 := Option.some.inj hx1
              exact q_ndf hnod (i := i) (k := k) (x := c0.map Prod.fst) (y := c1.map Prod.fst) (a := x) (by rw [List.getElem?_map, h.1]; rfl) (by rw [List.getElem?_map, hx1]; rfl) (fun e => hn.1 (by rw [e]; exact List.mem_of_getElem? hii)) hx (by rw [e]; exact hzd)
    exact key is cs hnd hC
  have hr := va_recv hK.1 hP hc he
  rw [hq] at hr
  exact q_callB (va_runV (rest := rest) S (hM H.size) cw ⟨q_blind, hr, fun U hU hW2 => ⟨rfl, by rw [hU], by rw [hU]; exact hPc, hK.warm hW2, hDc⟩⟩ rfl hn hsize hstack (lv_room hW) hdg ⟨hce, hsl⟩) hP hD hS hA is hnd hC kk
/-! calls that only read -/
theorem q_V0 (S : CallFix p m c cc nL s args Ts own) (hM : q_M C l y wM fr lo (.ref b :: As) wc (fun r w => r = r0 ∧ w = wc)) (cw : CallW R s args own CC index y bytes maxL ret wM (q_R fr lo) 0 0 n) (hK : q_K C s) (hP : va_P C.1 vwCl X H) (hD : va_D A0 X) (hS : va_S A0 H0 H locs) (hA : ∀ q, H0.size ≤ q → A0 q)
    (is : List Nat) (hnd : va_nd is = true) (hC : is.map (fun i => X[i]?) = wc.map some) (q0 : Nat) {ci : Nat} {fs : List Value} {q : vw_C} (he : X[q0]? = some (b, .inr (ci, fs))) (hc : vwCl[ci]? = some q) (hq : q.1 = CC)
    (hn : As.length = n) (hsize : ls.size = nL) (hstack : st0 = As.reverse ++ .ref b :: rest) (hW : (rest.map fun v => v.category).sum ≤ 8) (hdg : decode cc pc = .ok (.invokevirtual index, 3)) (hce : cells ≤ R.cells) (hsl : slots ≤ R.slots)
    (kk : ∀ (H1 : Heap) (locs1 : List Loc), va_P C.1 vwCl X H1 → va_S A0 H0 H1 locs1 → W p l e R s m args below meth c H1 locs1 cells slots Q (F0 m (pc + 3) ls (r0.toList ++ rest))) : W p l e R s m args below meth c H locs cells slots Q (F0 m pc ls st0) :=
  q_V S hM cw hK hP hD hS hA is hnd hC q0 he hc hq hn hsize hstack hW hdg hce hsl (fun r w1 H1 locs1 hQ hP1 _ hS1 => by
    obtain ⟨rfl, rfl⟩ := hQ
    rw [q_put_id hC] at hP1
    exact kk H1 locs1 hP1 hS1)
theorem q_S0 (S : CallFix p m c cc nL s args Ts own) (hM : q_M C l y wM fr lo As wc (fun r w => r = r0 ∧ w = wc)) (cw : CallB R s args own index y bytes maxL ret wM (q_R fr lo) 0 0 n ∧ (Cond.static y).before args s = true) (hK : q_K C s) (hP : va_P C.1 vwCl X H) (hD : va_D A0 X) (hS : va_S A0 H0 H locs) (hA : ∀ q, H0.size ≤ q → A0 q)
    (is : List Nat) (hnd : va_nd is = true) (hC : is.map (fun i => X[i]?) = wc.map some)
    (hn : As.length = n) (hsize : ls.size = nL) (hstack : st0 = As.reverse ++ rest) (hW : (rest.map fun v => v.category).sum ≤ 8) (hdg : decode cc pc = .ok (.invokestatic index, 3)) (hce : cells ≤ R.cells) (hsl : slots ≤ R.slots)
    (kk : ∀ (H1 : Heap) (locs1 : List Loc), va_P C.1 vwCl X H1 → va_S A0 H0 H1 locs1 → W p l e R s m args below meth c H1 locs1 cells slots Q (F0 m (pc + 3) ls (r0.toList ++ rest))) : W p l e R s m args below meth c H locs cells slots Q (F0 m pc ls st0) :=
  q_S S hM cw hK hP hD hS hA is hnd hC hn hsize hstack hW hdg hce hsl (fun r w1 H1 locs1 hQ hP1 _ hS1 => by
    obtain ⟨rfl, rfl⟩ := hQ
    rw [q_put_id hC] at hP1
    exact kk H1 locs1 hP1 hS1)
theorem q_N0 (S : CallFix p m c cc nL s args Ts own) (hM : q_M C l y wM fr lo As wc (fun r w => r = r0 ∧ w = wc)) (cw : va_CN R s args own index y host bytes maxL ret wM (q_R fr lo) 0 0 n ∧ (Cond.static y).before args s = true ∧ True) (hK : q_K C s) (hP : va_P C.1 vwCl X H) (hD : va_D A0 X) (hS : va_S A0 H0 H locs) (hA : ∀ q, H0.size ≤ q → A0 q)
    (is : List Nat) (hnd : va_nd is = true) (hC : is.map (fun i => X[i]?) = wc.map some)
    (hn : As.length = n) (hsize : ls.size = nL) (hstack : st0 = As.reverse ++ rest) (hW : (rest.map fun v => v.category).sum ≤ 8) (hdg : decode cc pc = .ok (.invokestatic index, 3)) (hce : cells ≤ R.cells) (hsl : slots ≤ R.slots)
    (kk : ∀ (H1 : Heap) (locs1 : List Loc), va_P C.1 vwCl X H1 → va_S A0 H0 H1 locs1 → W p l e R s m args below meth c H1 locs1 cells slots Q (F0 m (pc + 3) ls (r0.toList ++ rest))) : W p l e R s m args below meth c H locs cells slots Q (F0 m pc ls st0) :=
  q_N S hM cw hK hP hD hS hA is hnd hC hn hsize hstack hW hdg hce hsl (fun r w1 H1 locs1 hQ hP1 _ hS1 => by
    obtain ⟨rfl, rfl⟩ := hQ
    rw [q_put_id hC] at hP1
    exact kk H1 locs1 hP1 hS1)
end QBlk
end

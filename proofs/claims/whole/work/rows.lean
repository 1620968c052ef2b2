section
-- ===== PART A: goes FIRST, ahead of the names: the tables' words, and 'selects' of the private methods out of them =====
/-- a private method of a class that the tables say can be made, by its rows of tables_1 -/
def lw_okq (q : MethodName × Nat) : Prop := (q.1.cls ≠ "java/lang/invoke/MethodHandle" ∧ q.1.cls ≠ "java/lang/invoke/VarHandle") ∧ Cond.instantiable q.1.cls q.2 ∈ tables_1 ∧ Cond.privateMethod q.1 ∈ tables_1 ∧ Cond.instanceMethod q.1 ∈ tables_1
theorem lw_p0 : lw_okq (⟨"QuietChecks$History", "rowAt", "(I)LQuietChecks$Disk;"⟩, 2) := ⟨⟨by decide +kernel, by decide +kernel⟩, List.mem_of_getElem? (i := 154) (by decide +kernel), List.mem_of_getElem? (i := 262) (by decide +kernel), List.mem_of_getElem? (i := 263) (by decide +kernel)⟩
theorem lw_p1 : lw_okq (⟨"QuietChecks$History", "discardOldest", "()V"⟩, 2) := ⟨⟨by decide +kernel, by decide +kernel⟩, List.mem_of_getElem? (i := 154) (by decide +kernel), List.mem_of_getElem? (i := 300) (by decide +kernel), List.mem_of_getElem? (i := 301) (by decide +kernel)⟩
theorem lw_p2 : lw_okq (⟨"QuietChecks$Disk", "pauseCheck", "()V"⟩, 17) := ⟨⟨by decide +kernel, by decide +kernel⟩, List.mem_of_getElem? (i := 29) (by decide +kernel), List.mem_of_getElem? (i := 377) (by decide +kernel), List.mem_of_getElem? (i := 378) (by decide +kernel)⟩
theorem lw_p3 : lw_okq (⟨"QuietChecks$Disk", "isDue", "(I)Z"⟩, 17) := ⟨⟨by decide +kernel, by decide +kernel⟩, List.mem_of_getElem? (i := 29) (by decide +kernel), List.mem_of_getElem? (i := 409) (by decide +kernel), List.mem_of_getElem? (i := 410) (by decide +kernel)⟩
theorem lw_p4 : lw_okq (⟨"QuietChecks$Disk", "ageOf", "(I)I"⟩, 17) := ⟨⟨by decide +kernel, by decide +kernel⟩, List.mem_of_getElem? (i := 29) (by decide +kernel), List.mem_of_getElem? (i := 413) (by decide +kernel), List.mem_of_getElem? (i := 414) (by decide +kernel)⟩
theorem lw_p5 : lw_okq (⟨"QuietChecks$Disk", "rankOf", "(I)I"⟩, 17) := ⟨⟨by decide +kernel, by decide +kernel⟩, List.mem_of_getElem? (i := 29) (by decide +kernel), List.mem_of_getElem? (i := 417) (by decide +kernel), List.mem_of_getElem? (i := 418) (by decide +kernel)⟩
theorem lw_p6 : lw_okq (⟨"QuietChecks$Disk", "beginCheck", "(I)V"⟩, 17) := ⟨⟨by decide +kernel, by decide +kernel⟩, List.mem_of_getElem? (i := 29) (by decide +kernel), List.mem_of_getElem? (i := 428) (by decide +kernel), List.mem_of_getElem? (i := 429) (by decide +kernel)⟩
theorem lw_p7 : lw_okq (⟨"QuietChecks$Disk", "ticksOfCheck", "(I)I"⟩, 17) := ⟨⟨by decide +kernel, by decide +kernel⟩, List.mem_of_getElem? (i := 29) (by decide +kernel), List.mem_of_getElem? (i := 432) (by decide +kernel), List.mem_of_getElem? (i := 433) (by decide +kernel)⟩
theorem lw_p8 : lw_okq (⟨"QuietChecks$Disk", "endCheck", "(I)V"⟩, 17) := ⟨⟨by decide +kernel, by decide +kernel⟩, List.mem_of_getElem? (i := 29) (by decide +kernel), List.mem_of_getElem? (i := 436) (by decide +kernel), List.mem_of_getElem? (i := 437) (by decide +kernel)⟩
theorem lw_p9 : lw_okq (⟨"QuietChecks$Disk", "clearCheck", "()V"⟩, 17) := ⟨⟨by decide +kernel, by decide +kernel⟩, List.mem_of_getElem? (i := 29) (by decide +kernel), List.mem_of_getElem? (i := 440) (by decide +kernel), List.mem_of_getElem? (i := 441) (by decide +kernel)⟩
theorem lw_p10 : lw_okq (⟨"QuietChecks$Disk", "lookAtSpot", "(III)V"⟩, 17) := ⟨⟨by decide +kernel, by decide +kernel⟩, List.mem_of_getElem? (i := 29) (by decide +kernel), List.mem_of_getElem? (i := 444) (by decide +kernel), List.mem_of_getElem? (i := 445) (by decide +kernel)⟩
theorem lw_p11 : lw_okq (⟨"QuietChecks$Disk", "isOverdue", "(I)Z"⟩, 17) := ⟨⟨by decide +kernel, by decide +kernel⟩, List.mem_of_getElem? (i := 29) (by decide +kernel), List.mem_of_getElem? (i := 478) (by decide +kernel), List.mem_of_getElem? (i := 479) (by decide +kernel)⟩
theorem lw_p12 : lw_okq (⟨"QuietChecks$Log", "placeOf", "(I)I"⟩, 5) := ⟨⟨by decide +kernel, by decide +kernel⟩, List.mem_of_getElem? (i := 70) (by decide +kernel), List.mem_of_getElem? (i := 506) (by decide +kernel), List.mem_of_getElem? (i := 507) (by decide +kernel)⟩
theorem lw_p13 : lw_okq (⟨"QuietChecks", "writeLine", "(I)V"⟩, 5) := ⟨⟨by decide +kernel, by decide +kernel⟩, List.mem_of_getElem? (i := 21) (by decide +kernel), List.mem_of_getElem? (i := 521) (by decide +kernel), List.mem_of_getElem? (i := 522) (by decide +kernel)⟩
theorem lw_p14 : lw_okq (⟨"QuietChecks", "overdueAfter", "(II)I"⟩, 5) := ⟨⟨by decide +kernel, by decide +kernel⟩, List.mem_of_getElem? (i := 21) (by decide +kernel), List.mem_of_getElem? (i := 761) (by decide +kernel), List.mem_of_getElem? (i := 762) (by decide +kernel)⟩
theorem lw_p15 : lw_okq (⟨"QuietChecks$Plan", "takeCommand", "(I)Z"⟩, 8) := ⟨⟨by decide +kernel, by decide +kernel⟩, List.mem_of_getElem? (i := 170) (by decide +kernel), List.mem_of_getElem? (i := 793) (by decide +kernel), List.mem_of_getElem? (i := 794) (by decide +kernel)⟩
def lw_privs_1 : List (MethodName × Nat) := [(⟨"QuietChecks$History", "rowAt", "(I)LQuietChecks$Disk;"⟩, 2), (⟨"QuietChecks$History", "discardOldest", "()V"⟩, 2), (⟨"QuietChecks$Disk", "pauseCheck", "()V"⟩, 17), (⟨"QuietChecks$Disk", "isDue", "(I)Z"⟩, 17), (⟨"QuietChecks$Disk", "ageOf", "(I)I"⟩, 17), (⟨"QuietChecks$Disk", "rankOf", "(I)I"⟩, 17), (⟨"QuietChecks$Disk", "beginCheck", "(I)V"⟩, 17), (⟨"QuietChecks$Disk", "ticksOfCheck", "(I)I"⟩, 17), (⟨"QuietChecks$Disk", "endCheck", "(I)V"⟩, 17), (⟨"QuietChecks$Disk", "clearCheck", "()V"⟩, 17), (⟨"QuietChecks$Disk", "lookAtSpot", "(III)V"⟩, 17), (⟨"QuietChecks$Disk", "isOverdue", "(I)Z"⟩, 17), (⟨"QuietChecks$Log", "placeOf", "(I)I"⟩, 5), (⟨"QuietChecks", "writeLine", "(I)V"⟩, 5), (⟨"QuietChecks", "overdueAfter", "(II)I"⟩, 5), (⟨"QuietChecks$Plan", "takeCommand", "(I)Z"⟩, 8)]
theorem lw_r1 : ∀ q ∈ lw_privs_1, lw_okq q := List.forall_mem_cons.mpr ⟨lw_p0, List.forall_mem_cons.mpr ⟨lw_p1, List.forall_mem_cons.mpr ⟨lw_p2, List.forall_mem_cons.mpr ⟨lw_p3, List.forall_mem_cons.mpr ⟨lw_p4, List.forall_mem_cons.mpr ⟨lw_p5, List.forall_mem_cons.mpr ⟨lw_p6, List.forall_mem_cons.mpr ⟨lw_p7, List.forall_mem_cons.mpr ⟨lw_p8, List.forall_mem_cons.mpr ⟨lw_p9, List.forall_mem_cons.mpr ⟨lw_p10, List.forall_mem_cons.mpr ⟨lw_p11, List.forall_mem_cons.mpr ⟨lw_p12, List.forall_mem_cons.mpr ⟨lw_p13, List.forall_mem_cons.mpr ⟨lw_p14, List.forall_mem_cons.mpr ⟨lw_p15, fun _ h => absurd h List.not_mem_nil⟩⟩⟩⟩⟩⟩⟩⟩⟩⟩⟩⟩⟩⟩⟩⟩
theorem lw_p16 : lw_okq (⟨"QuietChecks$Plan", "sign", "()C"⟩, 8) := ⟨⟨by decide +kernel, by decide +kernel⟩, List.mem_of_getElem? (i := 170) (by decide +kernel), List.mem_of_getElem? (i := 797) (by decide +kernel), List.mem_of_getElem? (i := 798) (by decide +kernel)⟩
theorem lw_p17 : lw_okq (⟨"QuietChecks$Plan", "takeWord", "(Ljava/lang/String;)Z"⟩, 8) := ⟨⟨by decide +kernel, by decide +kernel⟩, List.mem_of_getElem? (i := 170) (by decide +kernel), List.mem_of_getElem? (i := 802) (by decide +kernel), List.mem_of_getElem? (i := 803) (by decide +kernel)⟩
theorem lw_p18 : lw_okq (⟨"QuietChecks$Plan", "takeSign", "(C)Z"⟩, 8) := ⟨⟨by decide +kernel, by decide +kernel⟩, List.mem_of_getElem? (i := 170) (by decide +kernel), List.mem_of_getElem? (i := 823) (by decide +kernel), List.mem_of_getElem? (i := 824) (by decide +kernel)⟩
theorem lw_p19 : lw_okq (⟨"QuietChecks$Plan", "takeSpan", "()Z"⟩, 8) := ⟨⟨by decide +kernel, by decide +kernel⟩, List.mem_of_getElem? (i := 170) (by decide +kernel), List.mem_of_getElem? (i := 827) (by decide +kernel), List.mem_of_getElem? (i := 828) (by decide +kernel)⟩
theorem lw_p20 : lw_okq (⟨"QuietChecks$Plan", "takeDigit", "(CC)Z"⟩, 8) := ⟨⟨by decide +kernel, by decide +kernel⟩, List.mem_of_getElem? (i := 170) (by decide +kernel), List.mem_of_getElem? (i := 831) (by decide +kernel), List.mem_of_getElem? (i := 832) (by decide +kernel)⟩
theorem lw_p21 : lw_okq (⟨"QuietChecks$Plan", "note", "(II)Z"⟩, 8) := ⟨⟨by decide +kernel, by decide +kernel⟩, List.mem_of_getElem? (i := 170) (by decide +kernel), List.mem_of_getElem? (i := 835) (by decide +kernel), List.mem_of_getElem? (i := 836) (by decide +kernel)⟩
theorem lw_p22 : lw_okq (⟨"QuietChecks$Plan", "takeNumber", "()Z"⟩, 8) := ⟨⟨by decide +kernel, by decide +kernel⟩, List.mem_of_getElem? (i := 170) (by decide +kernel), List.mem_of_getElem? (i := 839) (by decide +kernel), List.mem_of_getElem? (i := 840) (by decide +kernel)⟩
theorem lw_p23 : lw_okq (⟨"QuietChecks$Plan", "noteSecond", "(I)Z"⟩, 8) := ⟨⟨by decide +kernel, by decide +kernel⟩, List.mem_of_getElem? (i := 170) (by decide +kernel), List.mem_of_getElem? (i := 843) (by decide +kernel), List.mem_of_getElem? (i := 844) (by decide +kernel)⟩
theorem lw_p24 : lw_okq (⟨"QuietChecks$Plan", "takeWay", "()Z"⟩, 8) := ⟨⟨by decide +kernel, by decide +kernel⟩, List.mem_of_getElem? (i := 170) (by decide +kernel), List.mem_of_getElem? (i := 851) (by decide +kernel), List.mem_of_getElem? (i := 852) (by decide +kernel)⟩
theorem lw_p25 : lw_okq (⟨"QuietChecks", "doCommand", "(I)I"⟩, 5) := ⟨⟨by decide +kernel, by decide +kernel⟩, List.mem_of_getElem? (i := 21) (by decide +kernel), List.mem_of_getElem? (i := 862) (by decide +kernel), List.mem_of_getElem? (i := 863) (by decide +kernel)⟩
theorem lw_p26 : lw_okq (⟨"QuietChecks", "hashSpan", "(JI)J"⟩, 5) := ⟨⟨by decide +kernel, by decide +kernel⟩, List.mem_of_getElem? (i := 21) (by decide +kernel), List.mem_of_getElem? (i := 882) (by decide +kernel), List.mem_of_getElem? (i := 883) (by decide +kernel)⟩
theorem lw_p27 : lw_okq (⟨"QuietChecks", "hashEntry", "(JI)J"⟩, 5) := ⟨⟨by decide +kernel, by decide +kernel⟩, List.mem_of_getElem? (i := 21) (by decide +kernel), List.mem_of_getElem? (i := 890) (by decide +kernel), List.mem_of_getElem? (i := 891) (by decide +kernel)⟩
theorem lw_p28 : lw_okq (⟨"QuietChecksModel", "sets", "(II)I"⟩, 11) := ⟨⟨by decide +kernel, by decide +kernel⟩, List.mem_of_getElem? (i := 896) (by decide +kernel), List.mem_of_getElem? (i := 949) (by decide +kernel), List.mem_of_getElem? (i := 950) (by decide +kernel)⟩
theorem lw_p29 : lw_okq (⟨"QuietChecksModel", "record", "()V"⟩, 11) := ⟨⟨by decide +kernel, by decide +kernel⟩, List.mem_of_getElem? (i := 896) (by decide +kernel), List.mem_of_getElem? (i := 953) (by decide +kernel), List.mem_of_getElem? (i := 954) (by decide +kernel)⟩
theorem lw_p30 : lw_okq (⟨"QuietChecksModel", "whyNotSpot", "(II)I"⟩, 11) := ⟨⟨by decide +kernel, by decide +kernel⟩, List.mem_of_getElem? (i := 896) (by decide +kernel), List.mem_of_getElem? (i := 972) (by decide +kernel), List.mem_of_getElem? (i := 973) (by decide +kernel)⟩
theorem lw_p31 : lw_okq (⟨"QuietChecksModel", "adds", "(II)I"⟩, 11) := ⟨⟨by decide +kernel, by decide +kernel⟩, List.mem_of_getElem? (i := 896) (by decide +kernel), List.mem_of_getElem? (i := 979) (by decide +kernel), List.mem_of_getElem? (i := 980) (by decide +kernel)⟩
def lw_privs_2 : List (MethodName × Nat) := [(⟨"QuietChecks$Plan", "sign", "()C"⟩, 8), (⟨"QuietChecks$Plan", "takeWord", "(Ljava/lang/String;)Z"⟩, 8), (⟨"QuietChecks$Plan", "takeSign", "(C)Z"⟩, 8), (⟨"QuietChecks$Plan", "takeSpan", "()Z"⟩, 8), (⟨"QuietChecks$Plan", "takeDigit", "(CC)Z"⟩, 8), (⟨"QuietChecks$Plan", "note", "(II)Z"⟩, 8), (⟨"QuietChecks$Plan", "takeNumber", "()Z"⟩, 8), (⟨"QuietChecks$Plan", "noteSecond", "(I)Z"⟩, 8), (⟨"QuietChecks$Plan", "takeWay", "()Z"⟩, 8), (⟨"QuietChecks", "doCommand", "(I)I"⟩, 5), (⟨"QuietChecks", "hashSpan", "(JI)J"⟩, 5), (⟨"QuietChecks", "hashEntry", "(JI)J"⟩, 5), (⟨"QuietChecksModel", "sets", "(II)I"⟩, 11), (⟨"QuietChecksModel", "record", "()V"⟩, 11), (⟨"QuietChecksModel", "whyNotSpot", "(II)I"⟩, 11), (⟨"QuietChecksModel", "adds", "(II)I"⟩, 11)]
theorem lw_r2 : ∀ q ∈ lw_privs_2, lw_okq q := List.forall_mem_cons.mpr ⟨lw_p16, List.forall_mem_cons.mpr ⟨lw_p17, List.forall_mem_cons.mpr ⟨lw_p18, List.forall_mem_cons.mpr ⟨lw_p19, List.forall_mem_cons.mpr ⟨lw_p20, List.forall_mem_cons.mpr ⟨lw_p21, List.forall_mem_cons.mpr ⟨lw_p22, List.forall_mem_cons.mpr ⟨lw_p23, List.forall_mem_cons.mpr ⟨lw_p24, List.forall_mem_cons.mpr ⟨lw_p25, List.forall_mem_cons.mpr ⟨lw_p26, List.forall_mem_cons.mpr ⟨lw_p27, List.forall_mem_cons.mpr ⟨lw_p28, List.forall_mem_cons.mpr ⟨lw_p29, List.forall_mem_cons.mpr ⟨lw_p30, List.forall_mem_cons.mpr ⟨lw_p31, fun _ h => absurd h List.not_mem_nil⟩⟩⟩⟩⟩⟩⟩⟩⟩⟩⟩⟩⟩⟩⟩⟩
theorem lw_p32 : lw_okq (⟨"QuietChecksModel", "spotsMany", "(I)I"⟩, 11) := ⟨⟨by decide +kernel, by decide +kernel⟩, List.mem_of_getElem? (i := 896) (by decide +kernel), List.mem_of_getElem? (i := 983) (by decide +kernel), List.mem_of_getElem? (i := 984) (by decide +kernel)⟩
theorem lw_p33 : lw_okq (⟨"QuietChecksModel", "spotSpan", "(I)I"⟩, 11) := ⟨⟨by decide +kernel, by decide +kernel⟩, List.mem_of_getElem? (i := 896) (by decide +kernel), List.mem_of_getElem? (i := 987) (by decide +kernel), List.mem_of_getElem? (i := 988) (by decide +kernel)⟩
theorem lw_p34 : lw_okq (⟨"QuietChecksModel", "whyNotAsked", "(I)I"⟩, 11) := ⟨⟨by decide +kernel, by decide +kernel⟩, List.mem_of_getElem? (i := 896) (by decide +kernel), List.mem_of_getElem? (i := 995) (by decide +kernel), List.mem_of_getElem? (i := 996) (by decide +kernel)⟩
theorem lw_p35 : lw_okq (⟨"QuietChecksModel", "placeOf", "(I)I"⟩, 11) := ⟨⟨by decide +kernel, by decide +kernel⟩, List.mem_of_getElem? (i := 896) (by decide +kernel), List.mem_of_getElem? (i := 999) (by decide +kernel), List.mem_of_getElem? (i := 1000) (by decide +kernel)⟩
theorem lw_p36 : lw_okq (⟨"QuietChecksModel", "asks", "(I)I"⟩, 11) := ⟨⟨by decide +kernel, by decide +kernel⟩, List.mem_of_getElem? (i := 896) (by decide +kernel), List.mem_of_getElem? (i := 1003) (by decide +kernel), List.mem_of_getElem? (i := 1004) (by decide +kernel)⟩
theorem lw_p37 : lw_okq (⟨"QuietChecksModel", "takesOut", "(I)V"⟩, 11) := ⟨⟨by decide +kernel, by decide +kernel⟩, List.mem_of_getElem? (i := 896) (by decide +kernel), List.mem_of_getElem? (i := 1011) (by decide +kernel), List.mem_of_getElem? (i := 1012) (by decide +kernel)⟩
theorem lw_p38 : lw_okq (⟨"QuietChecksModel", "whyNotRead", "(II)I"⟩, 11) := ⟨⟨by decide +kernel, by decide +kernel⟩, List.mem_of_getElem? (i := 896) (by decide +kernel), List.mem_of_getElem? (i := 1019) (by decide +kernel), List.mem_of_getElem? (i := 1020) (by decide +kernel)⟩
theorem lw_p39 : lw_okq (⟨"QuietChecksModel", "reads", "(II)I"⟩, 11) := ⟨⟨by decide +kernel, by decide +kernel⟩, List.mem_of_getElem? (i := 896) (by decide +kernel), List.mem_of_getElem? (i := 1024) (by decide +kernel), List.mem_of_getElem? (i := 1025) (by decide +kernel)⟩
theorem lw_p40 : lw_okq (⟨"QuietChecksModel", "logs", "(II)V"⟩, 11) := ⟨⟨by decide +kernel, by decide +kernel⟩, List.mem_of_getElem? (i := 896) (by decide +kernel), List.mem_of_getElem? (i := 1028) (by decide +kernel), List.mem_of_getElem? (i := 1029) (by decide +kernel)⟩
theorem lw_p41 : lw_okq (⟨"QuietChecksModel", "isSlow", "(I)Z"⟩, 11) := ⟨⟨by decide +kernel, by decide +kernel⟩, List.mem_of_getElem? (i := 896) (by decide +kernel), List.mem_of_getElem? (i := 1032) (by decide +kernel), List.mem_of_getElem? (i := 1033) (by decide +kernel)⟩
theorem lw_p42 : lw_okq (⟨"QuietChecksModel", "spotTries", "(I)I"⟩, 11) := ⟨⟨by decide +kernel, by decide +kernel⟩, List.mem_of_getElem? (i := 896) (by decide +kernel), List.mem_of_getElem? (i := 1036) (by decide +kernel), List.mem_of_getElem? (i := 1037) (by decide +kernel)⟩
theorem lw_p43 : lw_okq (⟨"QuietChecksModel", "whyNotQuiet", "(I)I"⟩, 11) := ⟨⟨by decide +kernel, by decide +kernel⟩, List.mem_of_getElem? (i := 896) (by decide +kernel), List.mem_of_getElem? (i := 1044) (by decide +kernel), List.mem_of_getElem? (i := 1045) (by decide +kernel)⟩
theorem lw_p44 : lw_okq (⟨"QuietChecksModel", "passes", "(I)I"⟩, 11) := ⟨⟨by decide +kernel, by decide +kernel⟩, List.mem_of_getElem? (i := 896) (by decide +kernel), List.mem_of_getElem? (i := 1048) (by decide +kernel), List.mem_of_getElem? (i := 1049) (by decide +kernel)⟩
theorem lw_p45 : lw_okq (⟨"QuietChecksModel", "passesTick", "()I"⟩, 11) := ⟨⟨by decide +kernel, by decide +kernel⟩, List.mem_of_getElem? (i := 896) (by decide +kernel), List.mem_of_getElem? (i := 1052) (by decide +kernel), List.mem_of_getElem? (i := 1053) (by decide +kernel)⟩
theorem lw_p46 : lw_okq (⟨"QuietChecksModel", "begins", "()V"⟩, 11) := ⟨⟨by decide +kernel, by decide +kernel⟩, List.mem_of_getElem? (i := 896) (by decide +kernel), List.mem_of_getElem? (i := 1056) (by decide +kernel), List.mem_of_getElem? (i := 1057) (by decide +kernel)⟩
theorem lw_p47 : lw_okq (⟨"QuietChecksModel", "nextSpan", "()I"⟩, 11) := ⟨⟨by decide +kernel, by decide +kernel⟩, List.mem_of_getElem? (i := 896) (by decide +kernel), List.mem_of_getElem? (i := 1060) (by decide +kernel), List.mem_of_getElem? (i := 1061) (by decide +kernel)⟩
def lw_privs_3 : List (MethodName × Nat) := [(⟨"QuietChecksModel", "spotsMany", "(I)I"⟩, 11), (⟨"QuietChecksModel", "spotSpan", "(I)I"⟩, 11), (⟨"QuietChecksModel", "whyNotAsked", "(I)I"⟩, 11), (⟨"QuietChecksModel", "placeOf", "(I)I"⟩, 11), (⟨"QuietChecksModel", "asks", "(I)I"⟩, 11), (⟨"QuietChecksModel", "takesOut", "(I)V"⟩, 11), (⟨"QuietChecksModel", "whyNotRead", "(II)I"⟩, 11), (⟨"QuietChecksModel", "reads", "(II)I"⟩, 11), (⟨"QuietChecksModel", "logs", "(II)V"⟩, 11), (⟨"QuietChecksModel", "isSlow", "(I)Z"⟩, 11), (⟨"QuietChecksModel", "spotTries", "(I)I"⟩, 11), (⟨"QuietChecksModel", "whyNotQuiet", "(I)I"⟩, 11), (⟨"QuietChecksModel", "passes", "(I)I"⟩, 11), (⟨"QuietChecksModel", "passesTick", "()I"⟩, 11), (⟨"QuietChecksModel", "begins", "()V"⟩, 11), (⟨"QuietChecksModel", "nextSpan", "()I"⟩, 11)]
theorem lw_r3 : ∀ q ∈ lw_privs_3, lw_okq q := List.forall_mem_cons.mpr ⟨lw_p32, List.forall_mem_cons.mpr ⟨lw_p33, List.forall_mem_cons.mpr ⟨lw_p34, List.forall_mem_cons.mpr ⟨lw_p35, List.forall_mem_cons.mpr ⟨lw_p36, List.forall_mem_cons.mpr ⟨lw_p37, List.forall_mem_cons.mpr ⟨lw_p38, List.forall_mem_cons.mpr ⟨lw_p39, List.forall_mem_cons.mpr ⟨lw_p40, List.forall_mem_cons.mpr ⟨lw_p41, List.forall_mem_cons.mpr ⟨lw_p42, List.forall_mem_cons.mpr ⟨lw_p43, List.forall_mem_cons.mpr ⟨lw_p44, List.forall_mem_cons.mpr ⟨lw_p45, List.forall_mem_cons.mpr ⟨lw_p46, List.forall_mem_cons.mpr ⟨lw_p47, fun _ h => absurd h List.not_mem_nil⟩⟩⟩⟩⟩⟩⟩⟩⟩⟩⟩⟩⟩⟩⟩⟩
theorem lw_p48 : lw_okq (⟨"QuietChecksModel", "bestDue", "()I"⟩, 11) := ⟨⟨by decide +kernel, by decide +kernel⟩, List.mem_of_getElem? (i := 896) (by decide +kernel), List.mem_of_getElem? (i := 1064) (by decide +kernel), List.mem_of_getElem? (i := 1065) (by decide +kernel)⟩
theorem lw_p49 : lw_okq (⟨"QuietChecksModel", "age", "(I)I"⟩, 11) := ⟨⟨by decide +kernel, by decide +kernel⟩, List.mem_of_getElem? (i := 896) (by decide +kernel), List.mem_of_getElem? (i := 1068) (by decide +kernel), List.mem_of_getElem? (i := 1069) (by decide +kernel)⟩
theorem lw_p50 : lw_okq (⟨"QuietChecksModel", "sumOf", "(II)I"⟩, 11) := ⟨⟨by decide +kernel, by decide +kernel⟩, List.mem_of_getElem? (i := 896) (by decide +kernel), List.mem_of_getElem? (i := 1072) (by decide +kernel), List.mem_of_getElem? (i := 1073) (by decide +kernel)⟩
theorem lw_p51 : lw_okq (⟨"QuietChecksModel", "isDue", "(I)Z"⟩, 11) := ⟨⟨by decide +kernel, by decide +kernel⟩, List.mem_of_getElem? (i := 896) (by decide +kernel), List.mem_of_getElem? (i := 1076) (by decide +kernel), List.mem_of_getElem? (i := 1077) (by decide +kernel)⟩
theorem lw_p52 : lw_okq (⟨"QuietChecksModel", "takes", "(I)I"⟩, 11) := ⟨⟨by decide +kernel, by decide +kernel⟩, List.mem_of_getElem? (i := 896) (by decide +kernel), List.mem_of_getElem? (i := 1080) (by decide +kernel), List.mem_of_getElem? (i := 1081) (by decide +kernel)⟩
theorem lw_p53 : lw_okq (⟨"QuietChecksModel", "endsCheck", "()V"⟩, 11) := ⟨⟨by decide +kernel, by decide +kernel⟩, List.mem_of_getElem? (i := 896) (by decide +kernel), List.mem_of_getElem? (i := 1084) (by decide +kernel), List.mem_of_getElem? (i := 1085) (by decide +kernel)⟩
theorem lw_p54 : lw_okq (⟨"QuietChecksModel", "stops", "()V"⟩, 11) := ⟨⟨by decide +kernel, by decide +kernel⟩, List.mem_of_getElem? (i := 896) (by decide +kernel), List.mem_of_getElem? (i := 1088) (by decide +kernel), List.mem_of_getElem? (i := 1089) (by decide +kernel)⟩
theorem lw_p55 : lw_okq (⟨"QuietChecksModel", "ofSpan", "(II)I"⟩, 11) := ⟨⟨by decide +kernel, by decide +kernel⟩, List.mem_of_getElem? (i := 896) (by decide +kernel), List.mem_of_getElem? (i := 1108) (by decide +kernel), List.mem_of_getElem? (i := 1109) (by decide +kernel)⟩
theorem lw_p56 : lw_okq (⟨"QuietChecksModel", "entriesMany", "()I"⟩, 11) := ⟨⟨by decide +kernel, by decide +kernel⟩, List.mem_of_getElem? (i := 896) (by decide +kernel), List.mem_of_getElem? (i := 1120) (by decide +kernel), List.mem_of_getElem? (i := 1121) (by decide +kernel)⟩
theorem lw_p57 : lw_okq (⟨"QuietChecksModel", "isEntry", "(I)Z"⟩, 11) := ⟨⟨by decide +kernel, by decide +kernel⟩, List.mem_of_getElem? (i := 896) (by decide +kernel), List.mem_of_getElem? (i := 1128) (by decide +kernel), List.mem_of_getElem? (i := 1129) (by decide +kernel)⟩
theorem lw_p58 : lw_okq (⟨"QuietChecksModel", "lineLength", "(I)I"⟩, 11) := ⟨⟨by decide +kernel, by decide +kernel⟩, List.mem_of_getElem? (i := 896) (by decide +kernel), List.mem_of_getElem? (i := 1132) (by decide +kernel), List.mem_of_getElem? (i := 1133) (by decide +kernel)⟩
theorem lw_p59 : lw_okq (⟨"QuietChecksModel", "entryPart", "(II)I"⟩, 11) := ⟨⟨by decide +kernel, by decide +kernel⟩, List.mem_of_getElem? (i := 896) (by decide +kernel), List.mem_of_getElem? (i := 1136) (by decide +kernel), List.mem_of_getElem? (i := 1137) (by decide +kernel)⟩
theorem lw_p60 : lw_okq (⟨"QuietChecksModel", "lineCharacter", "(II)I"⟩, 11) := ⟨⟨by decide +kernel, by decide +kernel⟩, List.mem_of_getElem? (i := 896) (by decide +kernel), List.mem_of_getElem? (i := 1159) (by decide +kernel), List.mem_of_getElem? (i := 1160) (by decide +kernel)⟩
theorem lw_p61 : lw_okq (⟨"QuietChecksModel", "overdueMany", "()I"⟩, 11) := ⟨⟨by decide +kernel, by decide +kernel⟩, List.mem_of_getElem? (i := 896) (by decide +kernel), List.mem_of_getElem? (i := 1168) (by decide +kernel), List.mem_of_getElem? (i := 1169) (by decide +kernel)⟩
theorem lw_p62 : lw_okq (⟨"QuietChecksModel", "overdueIn", "(II)I"⟩, 11) := ⟨⟨by decide +kernel, by decide +kernel⟩, List.mem_of_getElem? (i := 896) (by decide +kernel), List.mem_of_getElem? (i := 1184) (by decide +kernel), List.mem_of_getElem? (i := 1185) (by decide +kernel)⟩
theorem lw_p63 : lw_okq (⟨"QuietChecksModel", "findError", "()I"⟩, 11) := ⟨⟨by decide +kernel, by decide +kernel⟩, List.mem_of_getElem? (i := 896) (by decide +kernel), List.mem_of_getElem? (i := 1204) (by decide +kernel), List.mem_of_getElem? (i := 1205) (by decide +kernel)⟩
def lw_privs_4 : List (MethodName × Nat) := [(⟨"QuietChecksModel", "bestDue", "()I"⟩, 11), (⟨"QuietChecksModel", "age", "(I)I"⟩, 11), (⟨"QuietChecksModel", "sumOf", "(II)I"⟩, 11), (⟨"QuietChecksModel", "isDue", "(I)Z"⟩, 11), (⟨"QuietChecksModel", "takes", "(I)I"⟩, 11), (⟨"QuietChecksModel", "endsCheck", "()V"⟩, 11), (⟨"QuietChecksModel", "stops", "()V"⟩, 11), (⟨"QuietChecksModel", "ofSpan", "(II)I"⟩, 11), (⟨"QuietChecksModel", "entriesMany", "()I"⟩, 11), (⟨"QuietChecksModel", "isEntry", "(I)Z"⟩, 11), (⟨"QuietChecksModel", "lineLength", "(I)I"⟩, 11), (⟨"QuietChecksModel", "entryPart", "(II)I"⟩, 11), (⟨"QuietChecksModel", "lineCharacter", "(II)I"⟩, 11), (⟨"QuietChecksModel", "overdueMany", "()I"⟩, 11), (⟨"QuietChecksModel", "overdueIn", "(II)I"⟩, 11), (⟨"QuietChecksModel", "findError", "()I"⟩, 11)]
theorem lw_r4 : ∀ q ∈ lw_privs_4, lw_okq q := List.forall_mem_cons.mpr ⟨lw_p48, List.forall_mem_cons.mpr ⟨lw_p49, List.forall_mem_cons.mpr ⟨lw_p50, List.forall_mem_cons.mpr ⟨lw_p51, List.forall_mem_cons.mpr ⟨lw_p52, List.forall_mem_cons.mpr ⟨lw_p53, List.forall_mem_cons.mpr ⟨lw_p54, List.forall_mem_cons.mpr ⟨lw_p55, List.forall_mem_cons.mpr ⟨lw_p56, List.forall_mem_cons.mpr ⟨lw_p57, List.forall_mem_cons.mpr ⟨lw_p58, List.forall_mem_cons.mpr ⟨lw_p59, List.forall_mem_cons.mpr ⟨lw_p60, List.forall_mem_cons.mpr ⟨lw_p61, List.forall_mem_cons.mpr ⟨lw_p62, List.forall_mem_cons.mpr ⟨lw_p63, fun _ h => absurd h List.not_mem_nil⟩⟩⟩⟩⟩⟩⟩⟩⟩⟩⟩⟩⟩⟩⟩⟩
theorem lw_p64 : lw_okq (⟨"QuietChecksModel", "readsCommand", "()Z"⟩, 11) := ⟨⟨by decide +kernel, by decide +kernel⟩, List.mem_of_getElem? (i := 896) (by decide +kernel), List.mem_of_getElem? (i := 1208) (by decide +kernel), List.mem_of_getElem? (i := 1209) (by decide +kernel)⟩
theorem lw_p65 : lw_okq (⟨"QuietChecksModel", "character", "(I)I"⟩, 11) := ⟨⟨by decide +kernel, by decide +kernel⟩, List.mem_of_getElem? (i := 896) (by decide +kernel), List.mem_of_getElem? (i := 1212) (by decide +kernel), List.mem_of_getElem? (i := 1213) (by decide +kernel)⟩
theorem lw_p66 : lw_okq (⟨"QuietChecksModel", "readsWord", "(J)Z"⟩, 11) := ⟨⟨by decide +kernel, by decide +kernel⟩, List.mem_of_getElem? (i := 896) (by decide +kernel), List.mem_of_getElem? (i := 1217) (by decide +kernel), List.mem_of_getElem? (i := 1218) (by decide +kernel)⟩
theorem lw_p67 : lw_okq (⟨"QuietChecksModel", "isNext", "(I)Z"⟩, 11) := ⟨⟨by decide +kernel, by decide +kernel⟩, List.mem_of_getElem? (i := 896) (by decide +kernel), List.mem_of_getElem? (i := 1221) (by decide +kernel), List.mem_of_getElem? (i := 1222) (by decide +kernel)⟩
theorem lw_p68 : lw_okq (⟨"QuietChecksModel", "readsSpan", "()Z"⟩, 11) := ⟨⟨by decide +kernel, by decide +kernel⟩, List.mem_of_getElem? (i := 896) (by decide +kernel), List.mem_of_getElem? (i := 1225) (by decide +kernel), List.mem_of_getElem? (i := 1226) (by decide +kernel)⟩
theorem lw_p69 : lw_okq (⟨"QuietChecksModel", "readsDigit", "(II)Z"⟩, 11) := ⟨⟨by decide +kernel, by decide +kernel⟩, List.mem_of_getElem? (i := 896) (by decide +kernel), List.mem_of_getElem? (i := 1229) (by decide +kernel), List.mem_of_getElem? (i := 1230) (by decide +kernel)⟩
theorem lw_p70 : lw_okq (⟨"QuietChecksModel", "readsNumber", "()Z"⟩, 11) := ⟨⟨by decide +kernel, by decide +kernel⟩, List.mem_of_getElem? (i := 896) (by decide +kernel), List.mem_of_getElem? (i := 1233) (by decide +kernel), List.mem_of_getElem? (i := 1234) (by decide +kernel)⟩
theorem lw_p71 : lw_okq (⟨"QuietChecksModel", "readsWay", "()Z"⟩, 11) := ⟨⟨by decide +kernel, by decide +kernel⟩, List.mem_of_getElem? (i := 896) (by decide +kernel), List.mem_of_getElem? (i := 1241) (by decide +kernel), List.mem_of_getElem? (i := 1242) (by decide +kernel)⟩
theorem lw_p72 : lw_okq (⟨"QuietChecksModel", "whyNotDone", "()I"⟩, 11) := ⟨⟨by decide +kernel, by decide +kernel⟩, List.mem_of_getElem? (i := 896) (by decide +kernel), List.mem_of_getElem? (i := 1252) (by decide +kernel), List.mem_of_getElem? (i := 1253) (by decide +kernel)⟩
theorem lw_p73 : lw_okq (⟨"QuietChecksModel", "does", "()V"⟩, 11) := ⟨⟨by decide +kernel, by decide +kernel⟩, List.mem_of_getElem? (i := 896) (by decide +kernel), List.mem_of_getElem? (i := 1256) (by decide +kernel), List.mem_of_getElem? (i := 1257) (by decide +kernel)⟩
def lw_privs_5 : List (MethodName × Nat) := [(⟨"QuietChecksModel", "readsCommand", "()Z"⟩, 11), (⟨"QuietChecksModel", "character", "(I)I"⟩, 11), (⟨"QuietChecksModel", "readsWord", "(J)Z"⟩, 11), (⟨"QuietChecksModel", "isNext", "(I)Z"⟩, 11), (⟨"QuietChecksModel", "readsSpan", "()Z"⟩, 11), (⟨"QuietChecksModel", "readsDigit", "(II)Z"⟩, 11), (⟨"QuietChecksModel", "readsNumber", "()Z"⟩, 11), (⟨"QuietChecksModel", "readsWay", "()Z"⟩, 11), (⟨"QuietChecksModel", "whyNotDone", "()I"⟩, 11), (⟨"QuietChecksModel", "does", "()V"⟩, 11)]
theorem lw_r5 : ∀ q ∈ lw_privs_5, lw_okq q := List.forall_mem_cons.mpr ⟨lw_p64, List.forall_mem_cons.mpr ⟨lw_p65, List.forall_mem_cons.mpr ⟨lw_p66, List.forall_mem_cons.mpr ⟨lw_p67, List.forall_mem_cons.mpr ⟨lw_p68, List.forall_mem_cons.mpr ⟨lw_p69, List.forall_mem_cons.mpr ⟨lw_p70, List.forall_mem_cons.mpr ⟨lw_p71, List.forall_mem_cons.mpr ⟨lw_p72, List.forall_mem_cons.mpr ⟨lw_p73, fun _ h => absurd h List.not_mem_nil⟩⟩⟩⟩⟩⟩⟩⟩⟩⟩
def lw_privs : List (MethodName × Nat) := lw_privs_1 ++ (lw_privs_2 ++ (lw_privs_3 ++ (lw_privs_4 ++ (lw_privs_5))))
def lw_tbl : List Cond := k2_sels lw_privs ++ tables_1
theorem lw_privs_ok : ∀ q ∈ lw_privs, lw_okq q := by
  show ∀ q ∈ lw_privs_1 ++ (lw_privs_2 ++ (lw_privs_3 ++ (lw_privs_4 ++ (lw_privs_5)))), lw_okq q
  exact List.forall_mem_append.mpr ⟨lw_r1, List.forall_mem_append.mpr ⟨lw_r2, List.forall_mem_append.mpr ⟨lw_r3, List.forall_mem_append.mpr ⟨lw_r4, lw_r5⟩⟩⟩⟩
end
section
/-! ===== BEGIN words of one list among another's, by their places ===== -/
theorem goodIn_r {big : List Cond} (ws : List Cond) (ps : List Nat) (hp : ws = ps.filterMap (fun i => big[i]?)) (h : ws.all goodWord = true) : GoodIn big ws := by
  intro w hw
  have h1 := List.all_eq_true.mp h w hw
  rw [hp] at hw
  obtain ⟨i, -, hi⟩ := List.mem_filterMap.mp hw
  have hm : w ∈ big := by first | exact List.mem_of_getElem? hi | exact List.getElem?_mem hi
  exact ⟨hm, good_of_word h1⟩
theorem goodIn_app {big a b : List Cond} (ha : GoodIn big a) (hb : GoodIn big b) : GoodIn big (a ++ b) := fun w h => (List.mem_append.mp h).elim (ha w) (hb w)
theorem goodIn_ca {big a b : List Cond} {c : Cond} (ha : GoodIn big (c :: a)) (hb : GoodIn big b) : GoodIn big (c :: (a ++ b)) := fun w h => (List.mem_cons.mp h).elim (fun e => ha w (List.mem_cons.mpr (Or.inl e))) (fun h => (List.mem_append.mp h).elim (fun h => ha w (List.mem_cons.mpr (Or.inr h))) (hb w))
theorem goodIn_sub {big ws : List Cond} (hm : ∀ w ∈ ws, w ∈ big) (h : ws.all goodWord = true) : GoodIn big ws := fun w hw => ⟨hm w hw, good_of_word (List.all_eq_true.mp h w hw)⟩
/-! ===== END ===== -/

/-! ===== BEGIN printed: names, fields, word lists, decode rows ===== -/
def RX0 : String := "QuietChecks$Asked"
def TX0 : u_T := fun k => match k with
  | 0 => ("QuietChecks$Asked", "spans", "[I", true)
  | _ => ("QuietChecks$Asked", "size", "I", false)
def tyX0 : Nat → FieldType := fun k => match k with
  | 0 => .array .int
  | _ => .int
abbrev wsX00 : List Cond := u_ws RX0 TX0 2
theorem nmX0 : ∀ a, a < 2 → ∀ b, b < 2 → a ≠ b → (TX0 a).2.1 ≠ (TX0 b).2.1 := by decide +kernel
theorem tyX0_ok : ∀ k, k < 2 → parseFieldDescriptor (TX0 k).2.2.1 = some (tyX0 k) := by decide +kernel
abbrev cX0_init : ByteArray := prog_2_method_1_code
def yX0_init : MethodName := ⟨RX0, "<init>", "()V"⟩
abbrev cX0_copyFrom : ByteArray := prog_2_method_2_code
def yX0_copyFrom : MethodName := ⟨RX0, "copyFrom", "(LQuietChecks$Asked;)V"⟩
abbrev cX0_placeOf : ByteArray := prog_2_method_3_code
def yX0_placeOf : MethodName := ⟨RX0, "placeOf", "(I)I"⟩
abbrev cX0_append : ByteArray := prog_2_method_4_code
def yX0_append : MethodName := ⟨RX0, "append", "(I)Z"⟩
abbrev cX0_drop : ByteArray := prog_2_method_5_code
def yX0_drop : MethodName := ⟨RX0, "drop", "(I)Z"⟩
def RX1 : String := "QuietChecks$Disk"
def TX1 : u_T := fun k => match k with
  | 0 => ("QuietChecks$Disk", "settings", "[I", true)
  | 1 => ("QuietChecks$Disk", "stamps", "[I", true)
  | 2 => ("QuietChecks$Disk", "spots", "LQuietChecks$Spots;", true)
  | 3 => ("QuietChecks$Disk", "asked", "LQuietChecks$Asked;", true)
  | 4 => ("QuietChecks$Disk", "log", "LQuietChecks$Log;", true)
  | 5 => ("QuietChecks$Disk", "way", "I", false)
  | 6 => ("QuietChecks$Disk", "spares", "I", false)
  | 7 => ("QuietChecks$Disk", "tick", "I", false)
  | 8 => ("QuietChecks$Disk", "quietTicks", "I", false)
  | 9 => ("QuietChecks$Disk", "checkSpan", "I", false)
  | 10 => ("QuietChecks$Disk", "checkDone", "I", false)
  | 11 => ("QuietChecks$Disk", "checkTicks", "I", false)
  | 12 => ("QuietChecks$Disk", "rowStart", "I", false)
  | 13 => ("QuietChecks$Disk", "ended", "I", false)
  | 14 => ("QuietChecks$Disk", "pauses", "I", false)
  | 15 => ("QuietChecks$Disk", "replaced", "I", false)
  | _ => ("QuietChecks$Disk", "slowReads", "I", false)
def tyX1 : Nat → FieldType := fun k => match k with
  | 0 => .array .int
  | 1 => .array .int
  | 2 => .object "QuietChecks$Spots"
  | 3 => .object "QuietChecks$Asked"
  | 4 => .object "QuietChecks$Log"
  | 5 => .int
  | 6 => .int
  | 7 => .int
  | 8 => .int
  | 9 => .int
  | 10 => .int
  | 11 => .int
  | 12 => .int
  | 13 => .int
  | 14 => .int
  | 15 => .int
  | _ => .int
abbrev wsX10 : List Cond := u_ws RX1 TX1 17
theorem nmX1 : ∀ a, a < 17 → ∀ b, b < 17 → a ≠ b → (TX1 a).2.1 ≠ (TX1 b).2.1 := by decide +kernel
theorem tyX1_ok : ∀ k, k < 17 → parseFieldDescriptor (TX1 k).2.2.1 = some (tyX1 k) := by decide +kernel
abbrev cX1_init : ByteArray := prog_3_method_1_code
def yX1_init : MethodName := ⟨RX1, "<init>", "()V"⟩
abbrev cX1_copyFrom : ByteArray := prog_3_method_2_code
def yX1_copyFrom : MethodName := ⟨RX1, "copyFrom", "(LQuietChecks$Disk;)V"⟩
abbrev cX1_changeSetting : ByteArray := prog_3_method_3_code
def yX1_changeSetting : MethodName := ⟨RX1, "changeSetting", "(II)I"⟩
abbrev cX1_changeWay : ByteArray := prog_3_method_4_code
def yX1_changeWay : MethodName := ⟨RX1, "changeWay", "(I)I"⟩
abbrev cX1_takeSpares : ByteArray := prog_3_method_5_code
def yX1_takeSpares : MethodName := ⟨RX1, "takeSpares", "(I)I"⟩
abbrev cX1_takeSpot : ByteArray := prog_3_method_6_code
def yX1_takeSpot : MethodName := ⟨RX1, "takeSpot", "(II)I"⟩
abbrev cX1_askByHand : ByteArray := prog_3_method_7_code
def yX1_askByHand : MethodName := ⟨RX1, "askByHand", "(I)I"⟩
abbrev cX1_withdraw : ByteArray := prog_3_method_8_code
def yX1_withdraw : MethodName := ⟨RX1, "withdraw", "(I)I"⟩
abbrev cX1_hostReads : ByteArray := prog_3_method_9_code
def yX1_hostReads : MethodName := ⟨RX1, "hostReads", "(II)I"⟩
abbrev cX1_passQuietTicks : ByteArray := prog_3_method_10_code
def yX1_passQuietTicks : MethodName := ⟨RX1, "passQuietTicks", "(I)I"⟩
abbrev cX1_passQuietTick : ByteArray := prog_3_method_11_code
def yX1_passQuietTick : MethodName := ⟨RX1, "passQuietTick", "()I"⟩
abbrev cX1_dropCheck : ByteArray := prog_3_method_12_code
def yX1_dropCheck : MethodName := ⟨RX1, "dropCheck", "()I"⟩
abbrev cX1_chooseSpan : ByteArray := prog_3_method_13_code
def yX1_chooseSpan : MethodName := ⟨RX1, "chooseSpan", "()I"⟩
abbrev cX1_rankOf : ByteArray := prog_3_method_14_code
def yX1_rankOf : MethodName := ⟨RX1, "rankOf", "(I)I"⟩
abbrev cX1_beginCheck : ByteArray := prog_3_method_15_code
def yX1_beginCheck : MethodName := ⟨RX1, "beginCheck", "(I)V"⟩
abbrev cX1_pauseCheck : ByteArray := prog_3_method_16_code
def yX1_pauseCheck : MethodName := ⟨RX1, "pauseCheck", "()V"⟩
abbrev cX1_clearCheck : ByteArray := prog_3_method_17_code
def yX1_clearCheck : MethodName := ⟨RX1, "clearCheck", "()V"⟩
abbrev cX1_endCheck : ByteArray := prog_3_method_18_code
def yX1_endCheck : MethodName := ⟨RX1, "endCheck", "(I)V"⟩
abbrev cX1_lookAtSpot : ByteArray := prog_3_method_19_code
def yX1_lookAtSpot : MethodName := ⟨RX1, "lookAtSpot", "(III)V"⟩
abbrev cX1_overdueSpans : ByteArray := prog_3_method_20_code
def yX1_overdueSpans : MethodName := ⟨RX1, "overdueSpans", "()I"⟩
abbrev cX1_ageOf : ByteArray := prog_3_method_21_code
def yX1_ageOf : MethodName := ⟨RX1, "ageOf", "(I)I"⟩
abbrev cX1_isOverdue : ByteArray := prog_3_method_22_code
def yX1_isOverdue : MethodName := ⟨RX1, "isOverdue", "(I)Z"⟩
abbrev cX1_isDue : ByteArray := prog_3_method_23_code
def yX1_isDue : MethodName := ⟨RX1, "isDue", "(I)Z"⟩
abbrev cX1_ticksOfCheck : ByteArray := prog_3_method_24_code
def yX1_ticksOfCheck : MethodName := ⟨RX1, "ticksOfCheck", "(I)I"⟩
abbrev cX1_numberOfDisk : ByteArray := prog_3_method_25_code
def yX1_numberOfDisk : MethodName := ⟨RX1, "numberOfDisk", "(I)I"⟩
abbrev cX1_numberOfSpan : ByteArray := prog_3_method_26_code
def yX1_numberOfSpan : MethodName := ⟨RX1, "numberOfSpan", "(II)I"⟩
def RX2 : String := "QuietChecks$History"
def TX2 : u_T := fun k => match k with
  | 0 => ("QuietChecks$History", "rows", "[LQuietChecks$Disk;", true)
  | _ => ("QuietChecks$History", "size", "I", false)
def tyX2 : Nat → FieldType := fun k => match k with
  | 0 => .array (.object "QuietChecks$Disk")
  | _ => .int
abbrev wsX20 : List Cond := u_ws RX2 TX2 2
theorem nmX2 : ∀ a, a < 2 → ∀ b, b < 2 → a ≠ b → (TX2 a).2.1 ≠ (TX2 b).2.1 := by decide +kernel
theorem tyX2_ok : ∀ k, k < 2 → parseFieldDescriptor (TX2 k).2.2.1 = some (tyX2 k) := by decide +kernel
abbrev cX2_init : ByteArray := prog_4_method_1_code
def yX2_init : MethodName := ⟨RX2, "<init>", "()V"⟩
abbrev cX2_draft : ByteArray := prog_4_method_2_code
def yX2_draft : MethodName := ⟨RX2, "draft", "(LQuietChecks$Disk;)V"⟩
abbrev cX2_keep : ByteArray := prog_4_method_3_code
def yX2_keep : MethodName := ⟨RX2, "keep", "(I)I"⟩
abbrev cX2_restore : ByteArray := prog_4_method_4_code
def yX2_restore : MethodName := ⟨RX2, "restore", "(LQuietChecks$Disk;)I"⟩
abbrev cX2_discardOldest : ByteArray := prog_4_method_5_code
def yX2_discardOldest : MethodName := ⟨RX2, "discardOldest", "()V"⟩
abbrev cX2_rowAt : ByteArray := prog_4_method_6_code
def yX2_rowAt : MethodName := ⟨RX2, "rowAt", "(I)LQuietChecks$Disk;"⟩
def RX3 : String := "QuietChecks$Log"
def TX3 : u_T := fun k => match k with
  | 0 => ("QuietChecks$Log", "ticks", "[I", true)
  | 1 => ("QuietChecks$Log", "kinds", "[I", true)
  | 2 => ("QuietChecks$Log", "spans", "[I", true)
  | 3 => ("QuietChecks$Log", "next", "I", false)
  | _ => ("QuietChecks$Log", "size", "I", false)
def tyX3 : Nat → FieldType := fun k => match k with
  | 0 => .array .int
  | 1 => .array .int
  | 2 => .array .int
  | 3 => .int
  | _ => .int
abbrev wsX30 : List Cond := u_ws RX3 TX3 5
theorem nmX3 : ∀ a, a < 5 → ∀ b, b < 5 → a ≠ b → (TX3 a).2.1 ≠ (TX3 b).2.1 := by decide +kernel
theorem tyX3_ok : ∀ k, k < 5 → parseFieldDescriptor (TX3 k).2.2.1 = some (tyX3 k) := by decide +kernel
abbrev cX3_init : ByteArray := prog_5_method_1_code
def yX3_init : MethodName := ⟨RX3, "<init>", "()V"⟩
abbrev cX3_copyFrom : ByteArray := prog_5_method_2_code
def yX3_copyFrom : MethodName := ⟨RX3, "copyFrom", "(LQuietChecks$Log;)V"⟩
abbrev cX3_append : ByteArray := prog_5_method_3_code
def yX3_append : MethodName := ⟨RX3, "append", "(III)V"⟩
abbrev cX3_has : ByteArray := prog_5_method_4_code
def yX3_has : MethodName := ⟨RX3, "has", "(I)Z"⟩
abbrev cX3_tickAt : ByteArray := prog_5_method_5_code
def yX3_tickAt : MethodName := ⟨RX3, "tickAt", "(I)I"⟩
abbrev cX3_kindAt : ByteArray := prog_5_method_6_code
def yX3_kindAt : MethodName := ⟨RX3, "kindAt", "(I)I"⟩
abbrev cX3_spanAt : ByteArray := prog_5_method_7_code
def yX3_spanAt : MethodName := ⟨RX3, "spanAt", "(I)I"⟩
abbrev cX3_placeOf : ByteArray := prog_5_method_8_code
def yX3_placeOf : MethodName := ⟨RX3, "placeOf", "(I)I"⟩
def RX4 : String := "QuietChecks$Plan"
def TX4 : u_T := fun k => match k with
  | 0 => ("QuietChecks$Plan", "text", "[C", true)
  | 1 => ("QuietChecks$Plan", "length", "I", false)
  | 2 => ("QuietChecks$Plan", "at", "I", false)
  | 3 => ("QuietChecks$Plan", "kinds", "[I", true)
  | 4 => ("QuietChecks$Plan", "firsts", "[I", true)
  | 5 => ("QuietChecks$Plan", "seconds", "[I", true)
  | 6 => ("QuietChecks$Plan", "commands", "I", false)
  | _ => ("QuietChecks$Plan", "value", "I", false)
def tyX4 : Nat → FieldType := fun k => match k with
  | 0 => .array .char
  | 1 => .int
  | 2 => .int
  | 3 => .array .int
  | 4 => .array .int
  | 5 => .array .int
  | 6 => .int
  | _ => .int
abbrev wsX40 : List Cond := u_ws RX4 TX4 8
theorem nmX4 : ∀ a, a < 8 → ∀ b, b < 8 → a ≠ b → (TX4 a).2.1 ≠ (TX4 b).2.1 := by decide +kernel
theorem tyX4_ok : ∀ k, k < 8 → parseFieldDescriptor (TX4 k).2.2.1 = some (tyX4 k) := by decide +kernel
abbrev cX4_init : ByteArray := prog_6_method_1_code
def yX4_init : MethodName := ⟨RX4, "<init>", "()V"⟩
abbrev cX4_append : ByteArray := prog_6_method_2_code
def yX4_append : MethodName := ⟨RX4, "append", "(I)I"⟩
abbrev cX4_clear : ByteArray := prog_6_method_3_code
def yX4_clear : MethodName := ⟨RX4, "clear", "()I"⟩
abbrev cX4_findError : ByteArray := prog_6_method_4_code
def yX4_findError : MethodName := ⟨RX4, "findError", "()I"⟩
abbrev cX4_takeCommand : ByteArray := prog_6_method_5_code
def yX4_takeCommand : MethodName := ⟨RX4, "takeCommand", "(I)Z"⟩
abbrev cX4_note : ByteArray := prog_6_method_6_code
def yX4_note : MethodName := ⟨RX4, "note", "(II)Z"⟩
abbrev cX4_noteSecond : ByteArray := prog_6_method_7_code
def yX4_noteSecond : MethodName := ⟨RX4, "noteSecond", "(I)Z"⟩
abbrev cX4_sign : ByteArray := prog_6_method_8_code
def yX4_sign : MethodName := ⟨RX4, "sign", "()C"⟩
abbrev cX4_takeSign : ByteArray := prog_6_method_9_code
def yX4_takeSign : MethodName := ⟨RX4, "takeSign", "(C)Z"⟩
abbrev cX4_takeWord : ByteArray := prog_6_method_10_code
def yX4_takeWord : MethodName := ⟨RX4, "takeWord", "(Ljava/lang/String;)Z"⟩
abbrev cX4_takeDigit : ByteArray := prog_6_method_11_code
def yX4_takeDigit : MethodName := ⟨RX4, "takeDigit", "(CC)Z"⟩
abbrev cX4_takeSpan : ByteArray := prog_6_method_12_code
def yX4_takeSpan : MethodName := ⟨RX4, "takeSpan", "()Z"⟩
abbrev cX4_takeNumber : ByteArray := prog_6_method_13_code
def yX4_takeNumber : MethodName := ⟨RX4, "takeNumber", "()Z"⟩
abbrev cX4_takeWay : ByteArray := prog_6_method_14_code
def yX4_takeWay : MethodName := ⟨RX4, "takeWay", "()Z"⟩
def RX5 : String := "QuietChecks$Spots"
def TX5 : u_T := fun k => match k with
  | 0 => ("QuietChecks$Spots", "spans", "[I", true)
  | 1 => ("QuietChecks$Spots", "tries", "[I", true)
  | _ => ("QuietChecks$Spots", "size", "I", false)
def tyX5 : Nat → FieldType := fun k => match k with
  | 0 => .array .int
  | 1 => .array .int
  | _ => .int
abbrev wsX50 : List Cond := u_ws RX5 TX5 3
theorem nmX5 : ∀ a, a < 3 → ∀ b, b < 3 → a ≠ b → (TX5 a).2.1 ≠ (TX5 b).2.1 := by decide +kernel
theorem tyX5_ok : ∀ k, k < 3 → parseFieldDescriptor (TX5 k).2.2.1 = some (tyX5 k) := by decide +kernel
abbrev cX5_init : ByteArray := prog_7_method_1_code
def yX5_init : MethodName := ⟨RX5, "<init>", "()V"⟩
abbrev cX5_copyFrom : ByteArray := prog_7_method_2_code
def yX5_copyFrom : MethodName := ⟨RX5, "copyFrom", "(LQuietChecks$Spots;)V"⟩
abbrev cX5_append : ByteArray := prog_7_method_3_code
def yX5_append : MethodName := ⟨RX5, "append", "(II)Z"⟩
abbrev cX5_sizeOf : ByteArray := prog_7_method_4_code
def yX5_sizeOf : MethodName := ⟨RX5, "sizeOf", "(I)I"⟩
abbrev cX5_sumOf : ByteArray := prog_7_method_5_code
def yX5_sumOf : MethodName := ⟨RX5, "sumOf", "(II)I"⟩
abbrev cX5_triesAt : ByteArray := prog_7_method_6_code
def yX5_triesAt : MethodName := ⟨RX5, "triesAt", "(II)I"⟩
abbrev cX5_hasWeak : ByteArray := prog_7_method_7_code
def yX5_hasWeak : MethodName := ⟨RX5, "hasWeak", "(II)Z"⟩
def RX6 : String := "QuietChecks"
def TX6 : u_T := fun k => match k with
  | 0 => ("QuietChecks", "disk", "LQuietChecks$Disk;", true)
  | 1 => ("QuietChecks", "trial", "LQuietChecks$Disk;", true)
  | 2 => ("QuietChecks", "history", "LQuietChecks$History;", true)
  | 3 => ("QuietChecks", "plan", "LQuietChecks$Plan;", true)
  | _ => ("QuietChecks", "line", "Ljava/lang/StringBuilder;", true)
def tyX6 : Nat → FieldType := fun k => match k with
  | 0 => .object "QuietChecks$Disk"
  | 1 => .object "QuietChecks$Disk"
  | 2 => .object "QuietChecks$History"
  | 3 => .object "QuietChecks$Plan"
  | _ => .object "java/lang/StringBuilder"
abbrev wsX60 : List Cond := u_ws RX6 TX6 5
theorem nmX6 : ∀ a, a < 5 → ∀ b, b < 5 → a ≠ b → (TX6 a).2.1 ≠ (TX6 b).2.1 := by decide +kernel
theorem tyX6_ok : ∀ k, k < 5 → parseFieldDescriptor (TX6 k).2.2.1 = some (tyX6 k) := by decide +kernel
abbrev cX6_init : ByteArray := prog_1_method_1_code
def yX6_init : MethodName := ⟨RX6, "<init>", "()V"⟩
abbrev cX6_set : ByteArray := prog_1_method_2_code
def yX6_set : MethodName := ⟨RX6, "set", "(II)I"⟩
abbrev cX6_setWay : ByteArray := prog_1_method_3_code
def yX6_setWay : MethodName := ⟨RX6, "setWay", "(I)I"⟩
abbrev cX6_addSpares : ByteArray := prog_1_method_4_code
def yX6_addSpares : MethodName := ⟨RX6, "addSpares", "(I)I"⟩
abbrev cX6_spot : ByteArray := prog_1_method_5_code
def yX6_spot : MethodName := ⟨RX6, "spot", "(II)I"⟩
abbrev cX6_ask : ByteArray := prog_1_method_6_code
def yX6_ask : MethodName := ⟨RX6, "ask", "(I)I"⟩
abbrev cX6_unask : ByteArray := prog_1_method_7_code
def yX6_unask : MethodName := ⟨RX6, "unask", "(I)I"⟩
abbrev cX6_read : ByteArray := prog_1_method_8_code
def yX6_read : MethodName := ⟨RX6, "read", "(II)I"⟩
abbrev cX6_quiet : ByteArray := prog_1_method_9_code
def yX6_quiet : MethodName := ⟨RX6, "quiet", "(I)I"⟩
abbrev cX6_giveUp : ByteArray := prog_1_method_10_code
def yX6_giveUp : MethodName := ⟨RX6, "giveUp", "()I"⟩
abbrev cX6_count : ByteArray := prog_1_method_11_code
def yX6_count : MethodName := ⟨RX6, "count", "(I)I"⟩
abbrev cX6_setting : ByteArray := prog_1_method_12_code
def yX6_setting : MethodName := ⟨RX6, "setting", "(I)I"⟩
abbrev cX6_span : ByteArray := prog_1_method_13_code
def yX6_span : MethodName := ⟨RX6, "span", "(II)I"⟩
abbrev cX6_tries : ByteArray := prog_1_method_14_code
def yX6_tries : MethodName := ⟨RX6, "tries", "(II)I"⟩
abbrev cX6_entries : ByteArray := prog_1_method_15_code
def yX6_entries : MethodName := ⟨RX6, "entries", "()I"⟩
abbrev cX6_entry : ByteArray := prog_1_method_16_code
def yX6_entry : MethodName := ⟨RX6, "entry", "(II)I"⟩
abbrev cX6_lineAt : ByteArray := prog_1_method_17_code
def yX6_lineAt : MethodName := ⟨RX6, "lineAt", "(II)I"⟩
abbrev cX6_overdue : ByteArray := prog_1_method_18_code
def yX6_overdue : MethodName := ⟨RX6, "overdue", "()I"⟩
abbrev cX6_nextCheck : ByteArray := prog_1_method_19_code
def yX6_nextCheck : MethodName := ⟨RX6, "nextCheck", "()I"⟩
abbrev cX6_checkedIn : ByteArray := prog_1_method_20_code
def yX6_checkedIn : MethodName := ⟨RX6, "checkedIn", "(I)I"⟩
abbrev cX6_ifQuiet : ByteArray := prog_1_method_21_code
def yX6_ifQuiet : MethodName := ⟨RX6, "ifQuiet", "(I)I"⟩
abbrev cX6_bestWay : ByteArray := prog_1_method_22_code
def yX6_bestWay : MethodName := ⟨RX6, "bestWay", "(I)I"⟩
abbrev cX6_type : ByteArray := prog_1_method_23_code
def yX6_type : MethodName := ⟨RX6, "type", "(I)I"⟩
abbrev cX6_clearText : ByteArray := prog_1_method_24_code
def yX6_clearText : MethodName := ⟨RX6, "clearText", "()I"⟩
abbrev cX6_syntaxError : ByteArray := prog_1_method_25_code
def yX6_syntaxError : MethodName := ⟨RX6, "syntaxError", "()I"⟩
abbrev cX6_carryOut : ByteArray := prog_1_method_26_code
def yX6_carryOut : MethodName := ⟨RX6, "carryOut", "()I"⟩
abbrev cX6_undo : ByteArray := prog_1_method_27_code
def yX6_undo : MethodName := ⟨RX6, "undo", "()I"⟩
abbrev cX6_digest : ByteArray := prog_1_method_28_code
def yX6_digest : MethodName := ⟨RX6, "digest", "()J"⟩
abbrev cX6_hashSpan : ByteArray := prog_1_method_29_code
def yX6_hashSpan : MethodName := ⟨RX6, "hashSpan", "(JI)J"⟩
abbrev cX6_hashEntry : ByteArray := prog_1_method_30_code
def yX6_hashEntry : MethodName := ⟨RX6, "hashEntry", "(JI)J"⟩
abbrev cX6_writeLine : ByteArray := prog_1_method_31_code
def yX6_writeLine : MethodName := ⟨RX6, "writeLine", "(I)V"⟩
abbrev cX6_overdueAfter : ByteArray := prog_1_method_32_code
def yX6_overdueAfter : MethodName := ⟨RX6, "overdueAfter", "(II)I"⟩
abbrev cX6_doCommand : ByteArray := prog_1_method_33_code
def yX6_doCommand : MethodName := ⟨RX6, "doCommand", "(I)I"⟩
abbrev cX6_isSpan : ByteArray := prog_1_method_34_code
def yX6_isSpan : MethodName := ⟨RX6, "isSpan", "(I)Z"⟩
abbrev cX6_isSetting : ByteArray := prog_1_method_35_code
def yX6_isSetting : MethodName := ⟨RX6, "isSetting", "(I)Z"⟩
abbrev cX6_wordOf : ByteArray := prog_1_method_36_code
def yX6_wordOf : MethodName := ⟨RX6, "wordOf", "(I)Ljava/lang/String;"⟩
def RX7 : String := "QuietChecksModel"
def TX7 : u_T := fun k => match k with
  | 0 => ("QuietChecksModel", "state", "[I", true)
  | 1 => ("QuietChecksModel", "kept", "[I", true)
  | 2 => ("QuietChecksModel", "history", "[I", true)
  | 3 => ("QuietChecksModel", "recorded", "I", false)
  | 4 => ("QuietChecksModel", "text", "[I", true)
  | 5 => ("QuietChecksModel", "textLength", "I", false)
  | 6 => ("QuietChecksModel", "at", "I", false)
  | 7 => ("QuietChecksModel", "command", "I", false)
  | 8 => ("QuietChecksModel", "one", "I", false)
  | 9 => ("QuietChecksModel", "two", "I", false)
  | _ => ("QuietChecksModel", "number", "I", false)
def tyX7 : Nat → FieldType := fun k => match k with
  | 0 => .array .int
  | 1 => .array .int
  | 2 => .array .int
  | 3 => .int
  | 4 => .array .int
  | 5 => .int
  | 6 => .int
  | 7 => .int
  | 8 => .int
  | 9 => .int
  | _ => .int
abbrev wsX70 : List Cond := u_ws RX7 TX7 11
theorem nmX7 : ∀ a, a < 11 → ∀ b, b < 11 → a ≠ b → (TX7 a).2.1 ≠ (TX7 b).2.1 := by decide +kernel
theorem tyX7_ok : ∀ k, k < 11 → parseFieldDescriptor (TX7 k).2.2.1 = some (tyX7 k) := by decide +kernel
abbrev cX7_init : ByteArray := prog_9_method_1_code
def yX7_init : MethodName := ⟨RX7, "<init>", "()V"⟩
abbrev cX7_within : ByteArray := prog_9_method_3_code
def yX7_within : MethodName := ⟨RX7, "within", "(III)Z"⟩
abbrev cX7_copies : ByteArray := prog_9_method_4_code
def yX7_copies : MethodName := ⟨RX7, "copies", "([II[II)V"⟩
abbrev cX7_record : ByteArray := prog_9_method_5_code
def yX7_record : MethodName := ⟨RX7, "record", "()V"⟩
abbrev cX7_isSpan : ByteArray := prog_9_method_6_code
def yX7_isSpan : MethodName := ⟨RX7, "isSpan", "(I)Z"⟩
abbrev cX7_logs : ByteArray := prog_9_method_7_code
def yX7_logs : MethodName := ⟨RX7, "logs", "(II)V"⟩
abbrev cX7_entriesMany : ByteArray := prog_9_method_8_code
def yX7_entriesMany : MethodName := ⟨RX7, "entriesMany", "()I"⟩
abbrev cX7_entryPart : ByteArray := prog_9_method_9_code
def yX7_entryPart : MethodName := ⟨RX7, "entryPart", "(II)I"⟩
abbrev cX7_word : ByteArray := prog_9_method_10_code
def yX7_word : MethodName := ⟨RX7, "word", "(I)J"⟩
abbrev cX7_digits : ByteArray := prog_9_method_11_code
def yX7_digits : MethodName := ⟨RX7, "digits", "(I)I"⟩
abbrev cX7_letters : ByteArray := prog_9_method_12_code
def yX7_letters : MethodName := ⟨RX7, "letters", "(I)I"⟩
abbrev cX7_lineLength : ByteArray := prog_9_method_13_code
def yX7_lineLength : MethodName := ⟨RX7, "lineLength", "(I)I"⟩
abbrev cX7_lineCharacter : ByteArray := prog_9_method_14_code
def yX7_lineCharacter : MethodName := ⟨RX7, "lineCharacter", "(II)I"⟩
abbrev cX7_spotSpan : ByteArray := prog_9_method_15_code
def yX7_spotSpan : MethodName := ⟨RX7, "spotSpan", "(I)I"⟩
abbrev cX7_spotTries : ByteArray := prog_9_method_16_code
def yX7_spotTries : MethodName := ⟨RX7, "spotTries", "(I)I"⟩
abbrev cX7_age : ByteArray := prog_9_method_17_code
def yX7_age : MethodName := ⟨RX7, "age", "(I)I"⟩
abbrev cX7_isDue : ByteArray := prog_9_method_18_code
def yX7_isDue : MethodName := ⟨RX7, "isDue", "(I)Z"⟩
abbrev cX7_sumOf : ByteArray := prog_9_method_19_code
def yX7_sumOf : MethodName := ⟨RX7, "sumOf", "(II)I"⟩
abbrev cX7_takes : ByteArray := prog_9_method_20_code
def yX7_takes : MethodName := ⟨RX7, "takes", "(I)I"⟩
abbrev cX7_placeOf : ByteArray := prog_9_method_21_code
def yX7_placeOf : MethodName := ⟨RX7, "placeOf", "(I)I"⟩
abbrev cX7_takesOut : ByteArray := prog_9_method_22_code
def yX7_takesOut : MethodName := ⟨RX7, "takesOut", "(I)V"⟩
abbrev cX7_bestDue : ByteArray := prog_9_method_23_code
def yX7_bestDue : MethodName := ⟨RX7, "bestDue", "()I"⟩
abbrev cX7_nextSpan : ByteArray := prog_9_method_24_code
def yX7_nextSpan : MethodName := ⟨RX7, "nextSpan", "()I"⟩
abbrev cX7_begins : ByteArray := prog_9_method_25_code
def yX7_begins : MethodName := ⟨RX7, "begins", "()V"⟩
abbrev cX7_stops : ByteArray := prog_9_method_26_code
def yX7_stops : MethodName := ⟨RX7, "stops", "()V"⟩
abbrev cX7_endsCheck : ByteArray := prog_9_method_27_code
def yX7_endsCheck : MethodName := ⟨RX7, "endsCheck", "()V"⟩
abbrev cX7_passesTick : ByteArray := prog_9_method_28_code
def yX7_passesTick : MethodName := ⟨RX7, "passesTick", "()I"⟩
abbrev cX7_passes : ByteArray := prog_9_method_29_code
def yX7_passes : MethodName := ⟨RX7, "passes", "(I)I"⟩
abbrev cX7_isSetting : ByteArray := prog_9_method_30_code
def yX7_isSetting : MethodName := ⟨RX7, "isSetting", "(I)Z"⟩
abbrev cX7_fits : ByteArray := prog_9_method_31_code
def yX7_fits : MethodName := ⟨RX7, "fits", "(II)Z"⟩
abbrev cX7_sets : ByteArray := prog_9_method_32_code
def yX7_sets : MethodName := ⟨RX7, "sets", "(II)I"⟩
abbrev cX7_set : ByteArray := prog_9_method_33_code
def yX7_set : MethodName := ⟨RX7, "set", "(II)I"⟩
abbrev cX7_setWay : ByteArray := prog_9_method_34_code
def yX7_setWay : MethodName := ⟨RX7, "setWay", "(I)I"⟩
abbrev cX7_addSpares : ByteArray := prog_9_method_35_code
def yX7_addSpares : MethodName := ⟨RX7, "addSpares", "(I)I"⟩
abbrev cX7_spotsMany : ByteArray := prog_9_method_36_code
def yX7_spotsMany : MethodName := ⟨RX7, "spotsMany", "(I)I"⟩
abbrev cX7_whyNotSpot : ByteArray := prog_9_method_37_code
def yX7_whyNotSpot : MethodName := ⟨RX7, "whyNotSpot", "(II)I"⟩
abbrev cX7_adds : ByteArray := prog_9_method_38_code
def yX7_adds : MethodName := ⟨RX7, "adds", "(II)I"⟩
abbrev cX7_spot : ByteArray := prog_9_method_39_code
def yX7_spot : MethodName := ⟨RX7, "spot", "(II)I"⟩
abbrev cX7_whyNotAsked : ByteArray := prog_9_method_40_code
def yX7_whyNotAsked : MethodName := ⟨RX7, "whyNotAsked", "(I)I"⟩
abbrev cX7_asks : ByteArray := prog_9_method_41_code
def yX7_asks : MethodName := ⟨RX7, "asks", "(I)I"⟩
abbrev cX7_ask : ByteArray := prog_9_method_42_code
def yX7_ask : MethodName := ⟨RX7, "ask", "(I)I"⟩
abbrev cX7_unask : ByteArray := prog_9_method_43_code
def yX7_unask : MethodName := ⟨RX7, "unask", "(I)I"⟩
abbrev cX7_whyNotRead : ByteArray := prog_9_method_44_code
def yX7_whyNotRead : MethodName := ⟨RX7, "whyNotRead", "(II)I"⟩
abbrev cX7_isSlow : ByteArray := prog_9_method_45_code
def yX7_isSlow : MethodName := ⟨RX7, "isSlow", "(I)Z"⟩
abbrev cX7_reads : ByteArray := prog_9_method_46_code
def yX7_reads : MethodName := ⟨RX7, "reads", "(II)I"⟩
abbrev cX7_read : ByteArray := prog_9_method_47_code
def yX7_read : MethodName := ⟨RX7, "read", "(II)I"⟩
abbrev cX7_whyNotQuiet : ByteArray := prog_9_method_48_code
def yX7_whyNotQuiet : MethodName := ⟨RX7, "whyNotQuiet", "(I)I"⟩
abbrev cX7_quiet : ByteArray := prog_9_method_49_code
def yX7_quiet : MethodName := ⟨RX7, "quiet", "(I)I"⟩
abbrev cX7_giveUp : ByteArray := prog_9_method_50_code
def yX7_giveUp : MethodName := ⟨RX7, "giveUp", "()I"⟩
abbrev cX7_count : ByteArray := prog_9_method_51_code
def yX7_count : MethodName := ⟨RX7, "count", "(I)I"⟩
abbrev cX7_setting : ByteArray := prog_9_method_52_code
def yX7_setting : MethodName := ⟨RX7, "setting", "(I)I"⟩
abbrev cX7_ofSpan : ByteArray := prog_9_method_53_code
def yX7_ofSpan : MethodName := ⟨RX7, "ofSpan", "(II)I"⟩
abbrev cX7_span : ByteArray := prog_9_method_54_code
def yX7_span : MethodName := ⟨RX7, "span", "(II)I"⟩
abbrev cX7_tries : ByteArray := prog_9_method_55_code
def yX7_tries : MethodName := ⟨RX7, "tries", "(II)I"⟩
abbrev cX7_entries : ByteArray := prog_9_method_56_code
def yX7_entries : MethodName := ⟨RX7, "entries", "()I"⟩
abbrev cX7_isEntry : ByteArray := prog_9_method_57_code
def yX7_isEntry : MethodName := ⟨RX7, "isEntry", "(I)Z"⟩
abbrev cX7_entry : ByteArray := prog_9_method_58_code
def yX7_entry : MethodName := ⟨RX7, "entry", "(II)I"⟩
abbrev cX7_lineAt : ByteArray := prog_9_method_59_code
def yX7_lineAt : MethodName := ⟨RX7, "lineAt", "(II)I"⟩
abbrev cX7_overdueMany : ByteArray := prog_9_method_60_code
def yX7_overdueMany : MethodName := ⟨RX7, "overdueMany", "()I"⟩
abbrev cX7_overdue : ByteArray := prog_9_method_61_code
def yX7_overdue : MethodName := ⟨RX7, "overdue", "()I"⟩
abbrev cX7_nextCheck : ByteArray := prog_9_method_62_code
def yX7_nextCheck : MethodName := ⟨RX7, "nextCheck", "()I"⟩
abbrev cX7_checkedIn : ByteArray := prog_9_method_63_code
def yX7_checkedIn : MethodName := ⟨RX7, "checkedIn", "(I)I"⟩
abbrev cX7_overdueIn : ByteArray := prog_9_method_64_code
def yX7_overdueIn : MethodName := ⟨RX7, "overdueIn", "(II)I"⟩
abbrev cX7_ifQuiet : ByteArray := prog_9_method_65_code
def yX7_ifQuiet : MethodName := ⟨RX7, "ifQuiet", "(I)I"⟩
abbrev cX7_bestWay : ByteArray := prog_9_method_66_code
def yX7_bestWay : MethodName := ⟨RX7, "bestWay", "(I)I"⟩
abbrev cX7_type : ByteArray := prog_9_method_67_code
def yX7_type : MethodName := ⟨RX7, "type", "(I)I"⟩
abbrev cX7_clearText : ByteArray := prog_9_method_68_code
def yX7_clearText : MethodName := ⟨RX7, "clearText", "()I"⟩
abbrev cX7_character : ByteArray := prog_9_method_69_code
def yX7_character : MethodName := ⟨RX7, "character", "(I)I"⟩
abbrev cX7_isNext : ByteArray := prog_9_method_70_code
def yX7_isNext : MethodName := ⟨RX7, "isNext", "(I)Z"⟩
abbrev cX7_readsWord : ByteArray := prog_9_method_71_code
def yX7_readsWord : MethodName := ⟨RX7, "readsWord", "(J)Z"⟩
abbrev cX7_readsNumber : ByteArray := prog_9_method_72_code
def yX7_readsNumber : MethodName := ⟨RX7, "readsNumber", "()Z"⟩
abbrev cX7_readsDigit : ByteArray := prog_9_method_73_code
def yX7_readsDigit : MethodName := ⟨RX7, "readsDigit", "(II)Z"⟩
abbrev cX7_readsSpan : ByteArray := prog_9_method_74_code
def yX7_readsSpan : MethodName := ⟨RX7, "readsSpan", "()Z"⟩
abbrev cX7_readsWay : ByteArray := prog_9_method_75_code
def yX7_readsWay : MethodName := ⟨RX7, "readsWay", "()Z"⟩
abbrev cX7_readsCommand : ByteArray := prog_9_method_76_code
def yX7_readsCommand : MethodName := ⟨RX7, "readsCommand", "()Z"⟩
abbrev cX7_findError : ByteArray := prog_9_method_77_code
def yX7_findError : MethodName := ⟨RX7, "findError", "()I"⟩
abbrev cX7_syntaxError : ByteArray := prog_9_method_78_code
def yX7_syntaxError : MethodName := ⟨RX7, "syntaxError", "()I"⟩
abbrev cX7_whyNotDone : ByteArray := prog_9_method_79_code
def yX7_whyNotDone : MethodName := ⟨RX7, "whyNotDone", "()I"⟩
abbrev cX7_does : ByteArray := prog_9_method_80_code
def yX7_does : MethodName := ⟨RX7, "does", "()V"⟩
abbrev cX7_carryOut : ByteArray := prog_9_method_81_code
def yX7_carryOut : MethodName := ⟨RX7, "carryOut", "()I"⟩
abbrev cX7_undo : ByteArray := prog_9_method_82_code
def yX7_undo : MethodName := ⟨RX7, "undo", "()I"⟩
abbrev cX7_digest : ByteArray := prog_9_method_83_code
def yX7_digest : MethodName := ⟨RX7, "digest", "()J"⟩
def RJ5 : String := "java/lang/AbstractStringBuilder"
def TJ5 : u_T := fun k => match k with
  | _ => ("", "", "", false)
def tyJ5 : Nat → FieldType := fun k => match k with
  | _ => .int
abbrev wsJ50 : List Cond := u_ws RJ5 TJ5 0
theorem nmJ5 : ∀ a, a < 0 → ∀ b, b < 0 → a ≠ b → (TJ5 a).2.1 ≠ (TJ5 b).2.1 := by decide +kernel
theorem tyJ5_ok : ∀ k, k < 0 → parseFieldDescriptor (TJ5 k).2.2.1 = some (tyJ5 k) := by decide +kernel
abbrev cJ5_init_d00df : ByteArray := prog_10_method_2_code
def yJ5_init_d00df : MethodName := ⟨RJ5, "<init>", "(I)V"⟩
abbrev cJ5_length_8abf5 : ByteArray := prog_10_method_6_code
def yJ5_length_8abf5 : MethodName := ⟨RJ5, "length", "()I"⟩
abbrev cJ5_ensureCapacityInternal_d00df : ByteArray := prog_10_method_9_code
def yJ5_ensureCapacityInternal_d00df : MethodName := ⟨RJ5, "ensureCapacityInternal", "(I)V"⟩
abbrev cJ5_newCapacity_0f7a4 : ByteArray := prog_10_method_10_code
def yJ5_newCapacity_0f7a4 : MethodName := ⟨RJ5, "newCapacity", "(I)I"⟩
abbrev cJ5_inflate_da8c8 : ByteArray := prog_10_method_11_code
def yJ5_inflate_da8c8 : MethodName := ⟨RJ5, "inflate", "()V"⟩
abbrev cJ5_setLength_d00df : ByteArray := prog_10_method_13_code
def yJ5_setLength_d00df : MethodName := ⟨RJ5, "setLength", "(I)V"⟩
abbrev cJ5_charAt_5068e : ByteArray := prog_10_method_14_code
def yJ5_charAt_5068e : MethodName := ⟨RJ5, "charAt", "(I)C"⟩
abbrev cJ5_append_cf1ce : ByteArray := prog_10_method_22_code
def yJ5_append_cf1ce : MethodName := ⟨RJ5, "append", "(Ljava/lang/String;)Ljava/lang/AbstractStringBuilder;"⟩
abbrev cJ5_appendNull_278bc : ByteArray := prog_10_method_26_code
def yJ5_appendNull_278bc : MethodName := ⟨RJ5, "appendNull", "()Ljava/lang/AbstractStringBuilder;"⟩
abbrev cJ5_append_3fe6f : ByteArray := prog_10_method_31_code
def yJ5_append_3fe6f : MethodName := ⟨RJ5, "append", "(C)Ljava/lang/AbstractStringBuilder;"⟩
abbrev cJ5_append_c97b9 : ByteArray := prog_10_method_32_code
def yJ5_append_c97b9 : MethodName := ⟨RJ5, "append", "(I)Ljava/lang/AbstractStringBuilder;"⟩
abbrev cJ5_isLatin1_aae02 : ByteArray := prog_10_method_68_code
def yJ5_isLatin1_aae02 : MethodName := ⟨RJ5, "isLatin1", "()Z"⟩
abbrev cJ5_inflateIfNeededFor_a7421 : ByteArray := prog_10_method_71_code
def yJ5_inflateIfNeededFor_a7421 : MethodName := ⟨RJ5, "inflateIfNeededFor", "(Ljava/lang/String;)V"⟩
abbrev cJ5_putStringAt_47b60 : ByteArray := prog_10_method_73_code
def yJ5_putStringAt_47b60 : MethodName := ⟨RJ5, "putStringAt", "(ILjava/lang/String;)V"⟩
def RJx8e188 : String := "java/lang/Cloneable"
def TJx8e188 : u_T := fun k => match k with
  | _ => ("", "", "", false)
def tyJx8e188 : Nat → FieldType := fun k => match k with
  | _ => .int
abbrev wsJx8e1880 : List Cond := u_ws RJx8e188 TJx8e188 0
theorem nmJx8e188 : ∀ a, a < 0 → ∀ b, b < 0 → a ≠ b → (TJx8e188 a).2.1 ≠ (TJx8e188 b).2.1 := by decide +kernel
theorem tyJx8e188_ok : ∀ k, k < 0 → parseFieldDescriptor (TJx8e188 k).2.2.1 = some (tyJx8e188 k) := by decide +kernel
def RJ6 : String := "java/lang/Integer"
def TJ6 : u_T := fun k => match k with
  | _ => ("", "", "", false)
def tyJ6 : Nat → FieldType := fun k => match k with
  | _ => .int
abbrev wsJ60 : List Cond := u_ws RJ6 TJ6 0
theorem nmJ6 : ∀ a, a < 0 → ∀ b, b < 0 → a ≠ b → (TJ6 a).2.1 ≠ (TJ6 b).2.1 := by decide +kernel
theorem tyJ6_ok : ∀ k, k < 0 → parseFieldDescriptor (TJ6 k).2.2.1 = some (tyJ6 k) := by decide +kernel
abbrev cJ6_getChars_ba4f3 : ByteArray := prog_12_method_12_code
def yJ6_getChars_ba4f3 : MethodName := ⟨RJ6, "getChars", "(II[B)I"⟩
abbrev cJ6_stringSize_0f7a4 : ByteArray := prog_12_method_13_code
def yJ6_stringSize_0f7a4 : MethodName := ⟨RJ6, "stringSize", "(I)I"⟩
def RJ9 : String := "java/lang/Math"
def TJ9 : u_T := fun k => match k with
  | _ => ("", "", "", false)
def tyJ9 : Nat → FieldType := fun k => match k with
  | _ => .int
abbrev wsJ90 : List Cond := u_ws RJ9 TJ9 0
theorem nmJ9 : ∀ a, a < 0 → ∀ b, b < 0 → a ≠ b → (TJ9 a).2.1 ≠ (TJ9 b).2.1 := by decide +kernel
theorem tyJ9_ok : ∀ k, k < 0 → parseFieldDescriptor (TJ9 k).2.2.1 = some (tyJ9 k) := by decide +kernel
abbrev cJ9_floorMod_7cf53 : ByteArray := prog_13_method_50_code
def yJ9_floorMod_7cf53 : MethodName := ⟨RJ9, "floorMod", "(II)I"⟩
abbrev cJ9_max_7cf53 : ByteArray := prog_13_method_65_code
def yJ9_max_7cf53 : MethodName := ⟨RJ9, "max", "(II)I"⟩
abbrev cJ9_min_7cf53 : ByteArray := prog_13_method_69_code
def yJ9_min_7cf53 : MethodName := ⟨RJ9, "min", "(II)I"⟩
def RJ0 : String := "java/lang/String"
def TJ0 : u_T := fun k => match k with
  | _ => ("", "", "", false)
def tyJ0 : Nat → FieldType := fun k => match k with
  | _ => .int
abbrev wsJ00 : List Cond := u_ws RJ0 TJ0 0
theorem nmJ0 : ∀ a, a < 0 → ∀ b, b < 0 → a ≠ b → (TJ0 a).2.1 ≠ (TJ0 b).2.1 := by decide +kernel
theorem tyJ0_ok : ∀ k, k < 0 → parseFieldDescriptor (TJ0 k).2.2.1 = some (tyJ0 k) := by decide +kernel
abbrev cJ0_length_8abf5 : ByteArray := prog_14_method_54_code
def yJ0_length_8abf5 : MethodName := ⟨RJ0, "length", "()I"⟩
abbrev cJ0_charAt_5068e : ByteArray := prog_14_method_56_code
def yJ0_charAt_5068e : MethodName := ⟨RJ0, "charAt", "(I)C"⟩
abbrev cJ0_getBytes_840e7 : ByteArray := prog_14_method_147_code
def yJ0_getBytes_840e7 : MethodName := ⟨RJ0, "getBytes", "([BIB)V"⟩
abbrev cJ0_coder_7d493 : ByteArray := prog_14_method_152_code
def yJ0_coder_7d493 : MethodName := ⟨RJ0, "coder", "()B"⟩
abbrev cJ0_isLatin1_aae02 : ByteArray := prog_14_method_154_code
def yJ0_isLatin1_aae02 : MethodName := ⟨RJ0, "isLatin1", "()Z"⟩
abbrev cJ0_checkIndex_df160 : ByteArray := prog_14_method_155_code
def yJ0_checkIndex_df160 : MethodName := ⟨RJ0, "checkIndex", "(II)V"⟩
abbrev cJ0_checkBoundsOffCount_cabcc : ByteArray := prog_14_method_157_code
def yJ0_checkBoundsOffCount_cabcc : MethodName := ⟨RJ0, "checkBoundsOffCount", "(III)I"⟩
abbrev cJ0_checkBoundsBeginEnd_23922 : ByteArray := prog_14_method_158_code
def yJ0_checkBoundsBeginEnd_23922 : MethodName := ⟨RJ0, "checkBoundsBeginEnd", "(III)V"⟩
def RJ4 : String := "java/lang/StringBuilder"
def TJ4 : u_T := fun k => match k with
  | 0 => ("java/lang/AbstractStringBuilder", "value", "[B", false)
  | 1 => ("java/lang/AbstractStringBuilder", "coder", "B", false)
  | 2 => ("java/lang/AbstractStringBuilder", "maybeLatin1", "Z", false)
  | _ => ("java/lang/AbstractStringBuilder", "count", "I", false)
def tyJ4 : Nat → FieldType := fun k => match k with
  | 0 => .array .byte
  | 1 => .byte
  | 2 => .boolean
  | _ => .int
abbrev wsJ40 : List Cond := u_ws RJ4 TJ4 4
theorem nmJ4 : ∀ a, a < 4 → ∀ b, b < 4 → a ≠ b → (TJ4 a).2.1 ≠ (TJ4 b).2.1 := by decide +kernel
theorem tyJ4_ok : ∀ k, k < 4 → parseFieldDescriptor (TJ4 k).2.2.1 = some (tyJ4 k) := by decide +kernel
abbrev cJ4_init_da8c8 : ByteArray := prog_15_method_1_code
def yJ4_init_da8c8 : MethodName := ⟨RJ4, "<init>", "()V"⟩
abbrev cJ4_append_15ec4 : ByteArray := prog_15_method_7_code
def yJ4_append_15ec4 : MethodName := ⟨RJ4, "append", "(Ljava/lang/String;)Ljava/lang/StringBuilder;"⟩
abbrev cJ4_append_cf468 : ByteArray := prog_15_method_14_code
def yJ4_append_cf468 : MethodName := ⟨RJ4, "append", "(C)Ljava/lang/StringBuilder;"⟩
abbrev cJ4_append_bf812 : ByteArray := prog_15_method_15_code
def yJ4_append_bf812 : MethodName := ⟨RJ4, "append", "(I)Ljava/lang/StringBuilder;"⟩
abbrev cJ4_charAt_5068e : ByteArray := prog_15_method_88_code
def yJ4_charAt_5068e : MethodName := ⟨RJ4, "charAt", "(I)C"⟩
abbrev cJ4_setLength_d00df : ByteArray := prog_15_method_89_code
def yJ4_setLength_d00df : MethodName := ⟨RJ4, "setLength", "(I)V"⟩
abbrev cJ4_length_8abf5 : ByteArray := prog_15_method_93_code
def yJ4_length_8abf5 : MethodName := ⟨RJ4, "length", "()I"⟩
def RJ1 : String := "java/lang/StringLatin1"
def TJ1 : u_T := fun k => match k with
  | _ => ("", "", "", false)
def tyJ1 : Nat → FieldType := fun k => match k with
  | _ => .int
abbrev wsJ10 : List Cond := u_ws RJ1 TJ1 0
theorem nmJ1 : ∀ a, a < 0 → ∀ b, b < 0 → a ≠ b → (TJ1 a).2.1 ≠ (TJ1 b).2.1 := by decide +kernel
theorem tyJ1_ok : ∀ k, k < 0 → parseFieldDescriptor (TJ1 k).2.2.1 = some (tyJ1 k) := by decide +kernel
abbrev cJ1_charAt_3b067 : ByteArray := prog_16_method_2_code
def yJ1_charAt_3b067 : MethodName := ⟨RJ1, "charAt", "([BI)C"⟩
abbrev cJ1_canEncode_fc78d : ByteArray := prog_16_method_3_code
def yJ1_canEncode_fc78d : MethodName := ⟨RJ1, "canEncode", "(C)Z"⟩
abbrev cJ1_fillNull_b72d1 : ByteArray := prog_16_method_48_code
def yJ1_fillNull_b72d1 : MethodName := ⟨RJ1, "fillNull", "([BII)V"⟩
abbrev cJ1_inflate_0e8fd : ByteArray := prog_16_method_50_code
def yJ1_inflate_0e8fd : MethodName := ⟨RJ1, "inflate", "([BI[BII)V"⟩
def RJ2 : String := "java/lang/StringUTF16"
def TJ2 : u_T := fun k => match k with
  | _ => ("", "", "", false)
def tyJ2 : Nat → FieldType := fun k => match k with
  | _ => .int
abbrev wsJ20 : List Cond := u_ws RJ2 TJ2 0
theorem nmJ2 : ∀ a, a < 0 → ∀ b, b < 0 → a ≠ b → (TJ2 a).2.1 ≠ (TJ2 b).2.1 := by decide +kernel
theorem tyJ2_ok : ∀ k, k < 0 → parseFieldDescriptor (TJ2 k).2.2.1 = some (tyJ2 k) := by decide +kernel
abbrev cJ2_newBytesFor_77867 : ByteArray := prog_17_method_2_code
def yJ2_newBytesFor_77867 : MethodName := ⟨RJ2, "newBytesFor", "(I)[B"⟩
abbrev cJ2_newBytesLength_0f7a4 : ByteArray := prog_17_method_3_code
def yJ2_newBytesLength_0f7a4 : MethodName := ⟨RJ2, "newBytesLength", "(I)I"⟩
abbrev cJ2_putChar_b72d1 : ByteArray := prog_17_method_4_code
def yJ2_putChar_b72d1 : MethodName := ⟨RJ2, "putChar", "([BII)V"⟩
abbrev cJ2_getChar_3b067 : ByteArray := prog_17_method_5_code
def yJ2_getChar_3b067 : MethodName := ⟨RJ2, "getChar", "([BI)C"⟩
abbrev cJ2_length_9d52b : ByteArray := prog_17_method_6_code
def yJ2_length_9d52b : MethodName := ⟨RJ2, "length", "([B)I"⟩
abbrev cJ2_fillNull_b72d1 : ByteArray := prog_17_method_70_code
def yJ2_fillNull_b72d1 : MethodName := ⟨RJ2, "fillNull", "([BII)V"⟩
abbrev cJ2_putCharSB_b72d1 : ByteArray := prog_17_method_71_code
def yJ2_putCharSB_b72d1 : MethodName := ⟨RJ2, "putCharSB", "([BII)V"⟩
abbrev cJ2_getChars_46870 : ByteArray := prog_17_method_77_code
def yJ2_getChars_46870 : MethodName := ⟨RJ2, "getChars", "(III[B)I"⟩
abbrev cJ2_putCharsAt_cd4e5 : ByteArray := prog_17_method_81_code
def yJ2_putCharsAt_cd4e5 : MethodName := ⟨RJ2, "putCharsAt", "([BICCCC)I"⟩
abbrev cJ2_charAt_3b067 : ByteArray := prog_17_method_83_code
def yJ2_charAt_3b067 : MethodName := ⟨RJ2, "charAt", "([BI)C"⟩
abbrev cJ2_inflate_0e8fd : ByteArray := prog_17_method_86_code
def yJ2_inflate_0e8fd : MethodName := ⟨RJ2, "inflate", "([BI[BII)V"⟩
abbrev cJ2_getChars_ba4f3 : ByteArray := prog_17_method_89_code
def yJ2_getChars_ba4f3 : MethodName := ⟨RJ2, "getChars", "(II[B)I"⟩
abbrev cJ2_checkIndex_2214a : ByteArray := prog_17_method_91_code
def yJ2_checkIndex_2214a : MethodName := ⟨RJ2, "checkIndex", "(I[B)V"⟩
abbrev cJ2_checkBoundsBeginEnd_d044e : ByteArray := prog_17_method_93_code
def yJ2_checkBoundsBeginEnd_d044e : MethodName := ⟨RJ2, "checkBoundsBeginEnd", "(II[B)V"⟩
abbrev cJ2_checkBoundsOffCount_d044e : ByteArray := prog_17_method_94_code
def yJ2_checkBoundsOffCount_d044e : MethodName := ⟨RJ2, "checkBoundsOffCount", "(II[B)V"⟩
def RJ10 : String := "java/lang/System"
def TJ10 : u_T := fun k => match k with
  | _ => ("", "", "", false)
def tyJ10 : Nat → FieldType := fun k => match k with
  | _ => .int
abbrev wsJ100 : List Cond := u_ws RJ10 TJ10 0
theorem nmJ10 : ∀ a, a < 0 → ∀ b, b < 0 → a ≠ b → (TJ10 a).2.1 ≠ (TJ10 b).2.1 := by decide +kernel
theorem tyJ10_ok : ∀ k, k < 0 → parseFieldDescriptor (TJ10 k).2.2.1 = some (tyJ10 k) := by decide +kernel
def RJ7 : String := "java/util/Arrays"
def TJ7 : u_T := fun k => match k with
  | _ => ("", "", "", false)
def tyJ7 : Nat → FieldType := fun k => match k with
  | _ => .int
abbrev wsJ70 : List Cond := u_ws RJ7 TJ7 0
theorem nmJ7 : ∀ a, a < 0 → ∀ b, b < 0 → a ≠ b → (TJ7 a).2.1 ≠ (TJ7 b).2.1 := by decide +kernel
theorem tyJ7_ok : ∀ k, k < 0 → parseFieldDescriptor (TJ7 k).2.2.1 = some (tyJ7 k) := by decide +kernel
abbrev cJ7_rangeCheck_23922 : ByteArray := prog_19_method_30_code
def yJ7_rangeCheck_23922 : MethodName := ⟨RJ7, "rangeCheck", "(III)V"⟩
abbrev cJ7_fill_eb02e : ByteArray := prog_19_method_110_code
def yJ7_fill_eb02e : MethodName := ⟨RJ7, "fill", "([BIIB)V"⟩
abbrev cJ7_copyOf_9075b : ByteArray := prog_19_method_121_code
def yJ7_copyOf_9075b : MethodName := ⟨RJ7, "copyOf", "([BI)[B"⟩
def RJ8 : String := "jdk/internal/util/ArraysSupport"
def TJ8 : u_T := fun k => match k with
  | _ => ("", "", "", false)
def tyJ8 : Nat → FieldType := fun k => match k with
  | _ => .int
abbrev wsJ80 : List Cond := u_ws RJ8 TJ8 0
theorem nmJ8 : ∀ a, a < 0 → ∀ b, b < 0 → a ≠ b → (TJ8 a).2.1 ≠ (TJ8 b).2.1 := by decide +kernel
theorem tyJ8_ok : ∀ k, k < 0 → parseFieldDescriptor (TJ8 k).2.2.1 = some (tyJ8 k) := by decide +kernel
abbrev cJ8_newLength_cabcc : ByteArray := prog_20_method_27_code
def yJ8_newLength_cabcc : MethodName := ⟨RJ8, "newLength", "(III)I"⟩
abbrev cJ8_hugeLength_7cf53 : ByteArray := prog_20_method_28_code
def yJ8_hugeLength_7cf53 : MethodName := ⟨RJ8, "hugeLength", "(II)I"⟩
def RJ3 : String := "jdk/internal/util/Preconditions"
def TJ3 : u_T := fun k => match k with
  | _ => ("", "", "", false)
def tyJ3 : Nat → FieldType := fun k => match k with
  | _ => .int
abbrev wsJ30 : List Cond := u_ws RJ3 TJ3 0
theorem nmJ3 : ∀ a, a < 0 → ∀ b, b < 0 → a ≠ b → (TJ3 a).2.1 ≠ (TJ3 b).2.1 := by decide +kernel
theorem tyJ3_ok : ∀ k, k < 0 → parseFieldDescriptor (TJ3 k).2.2.1 = some (tyJ3 k) := by decide +kernel
abbrev cJ3_checkIndex_8e157 : ByteArray := prog_21_method_11_code
def yJ3_checkIndex_8e157 : MethodName := ⟨RJ3, "checkIndex", "(IILjava/util/function/BiFunction;)I"⟩
abbrev cJ3_checkFromToIndex_8c36e : ByteArray := prog_21_method_12_code
def yJ3_checkFromToIndex_8c36e : MethodName := ⟨RJ3, "checkFromToIndex", "(IIILjava/util/function/BiFunction;)I"⟩
abbrev cJ3_checkFromIndexSize_8c36e : ByteArray := prog_21_method_13_code
def yJ3_checkFromIndexSize_8c36e : MethodName := ⟨RJ3, "checkFromIndexSize", "(IIILjava/util/function/BiFunction;)I"⟩
def RL : String := "QuietChecksLaw"
abbrev cL_law : ByteArray := code
def yL_law : MethodName := ⟨RL, "law", "([I)Z"⟩
def wsL_law_r1 : List Cond := [Cond.classLink RL 7 RX6, Cond.instantiable RX6 5, Cond.initialized RX6, Cond.classLink RL 10 RX7, Cond.instantiable RX7 11, Cond.initialized RX7, Cond.methodLink RL 9 yX6_init, Cond.instanceMethod yX6_init, Cond.code yX6_init cX6_init 1 none, Cond.methodLink RX6 1 objectInit, Cond.instanceMethod objectInit, Cond.code objectInit ⟨#[0xb1]⟩ 1 none, Cond.classLink RX6 7 RX1, Cond.instantiable RX1 17, Cond.initialized RX1, Cond.fieldLink RX6 10 "QuietChecks" "disk" "LQuietChecks$Disk;", Cond.fieldLink RX6 16 "QuietChecks" "trial" "LQuietChecks$Disk;", Cond.classLink RX6 19 RX2, Cond.instantiable RX2 2, Cond.initialized RX2, Cond.fieldLink RX6 22 "QuietChecks" "history" "LQuietChecks$History;", Cond.classLink RX6 26 RX4, Cond.instantiable RX4 8, Cond.initialized RX4]
def wsL_law_r2 : List Cond := [Cond.fieldLink RX6 29 "QuietChecks" "plan" "LQuietChecks$Plan;", Cond.classLink RX6 33 RJ4, Cond.instantiable RJ4 4, Cond.initialized RJ4, Cond.fieldLink RX6 36 "QuietChecks" "line" "Ljava/lang/StringBuilder;", Cond.methodLink RX6 9 yX1_init, Cond.instanceMethod yX1_init, Cond.code yX1_init cX1_init 1 none, Cond.methodLink RX1 3 objectInit, Cond.arrayClass .int, Cond.fieldLink RX1 9 "QuietChecks$Disk" "settings" "[I", Cond.fieldLink RX1 15 "QuietChecks$Disk" "stamps" "[I", Cond.classLink RX1 18 RX5, Cond.instantiable RX5 3, Cond.initialized RX5, Cond.fieldLink RX1 21 "QuietChecks$Disk" "spots" "LQuietChecks$Spots;", Cond.classLink RX1 25 RX0, Cond.instantiable RX0 2, Cond.initialized RX0, Cond.fieldLink RX1 28 "QuietChecks$Disk" "asked" "LQuietChecks$Asked;", Cond.classLink RX1 32 RX3, Cond.instantiable RX3 5, Cond.initialized RX3, Cond.fieldLink RX1 35 "QuietChecks$Disk" "log" "LQuietChecks$Log;"]
def wsL_law_r3 : List Cond := [Cond.fieldLink RX1 39 "QuietChecks$Disk" "way" "I", Cond.fieldLink RX1 43 "QuietChecks$Disk" "spares" "I", Cond.fieldLink RX1 46 "QuietChecks$Disk" "tick" "I", Cond.fieldLink RX1 49 "QuietChecks$Disk" "quietTicks" "I", Cond.fieldLink RX1 52 "QuietChecks$Disk" "checkSpan" "I", Cond.fieldLink RX1 55 "QuietChecks$Disk" "checkDone" "I", Cond.fieldLink RX1 58 "QuietChecks$Disk" "checkTicks" "I", Cond.fieldLink RX1 61 "QuietChecks$Disk" "rowStart" "I", Cond.fieldLink RX1 64 "QuietChecks$Disk" "ended" "I", Cond.fieldLink RX1 67 "QuietChecks$Disk" "pauses" "I", Cond.fieldLink RX1 70 "QuietChecks$Disk" "replaced" "I", Cond.fieldLink RX1 73 "QuietChecks$Disk" "slowReads" "I", Cond.methodLink RX1 79 arraycopyName, Cond.native arraycopyName, Cond.static arraycopyName, Cond.initialized "java/lang/System", Cond.instanceMethod yX5_init, Cond.code yX5_init cX5_init 1 none, Cond.methodLink RX5 3 objectInit, Cond.fieldLink RX5 9 "QuietChecks$Spots" "spans" "[I", Cond.fieldLink RX5 15 "QuietChecks$Spots" "tries" "[I", Cond.fieldLink RX5 18 "QuietChecks$Spots" "size" "I", Cond.instanceMethod yX0_init, Cond.code yX0_init cX0_init 1 none]
def wsL_law_r4 : List Cond := [Cond.methodLink RX0 3 objectInit, Cond.fieldLink RX0 9 "QuietChecks$Asked" "spans" "[I", Cond.fieldLink RX0 15 "QuietChecks$Asked" "size" "I", Cond.instanceMethod yX3_init, Cond.code yX3_init cX3_init 1 none, Cond.methodLink RX3 3 objectInit, Cond.fieldLink RX3 9 "QuietChecks$Log" "ticks" "[I", Cond.fieldLink RX3 15 "QuietChecks$Log" "kinds" "[I", Cond.fieldLink RX3 18 "QuietChecks$Log" "spans" "[I", Cond.fieldLink RX3 21 "QuietChecks$Log" "next" "I", Cond.fieldLink RX3 25 "QuietChecks$Log" "size" "I", Cond.methodLink RX6 21 yX2_init, Cond.instanceMethod yX2_init, Cond.code yX2_init cX2_init 2 none, Cond.methodLink RX2 3 objectInit, Cond.classLink RX2 9 RX1, Cond.fieldLink RX2 11 "QuietChecks$History" "rows" "[LQuietChecks$Disk;", Cond.fieldLink RX2 17 "QuietChecks$History" "size" "I", Cond.methodLink RX2 21 yX1_init, Cond.instanceMethod yX4_init, Cond.code yX4_init cX4_init 1 none, Cond.methodLink RX4 3 objectInit, Cond.arrayClass .char, Cond.fieldLink RX4 9 "QuietChecks$Plan" "text" "[C"]
def wsL_law_r5 : List Cond := [Cond.fieldLink RX4 15 "QuietChecks$Plan" "length" "I", Cond.fieldLink RX4 19 "QuietChecks$Plan" "at" "I", Cond.fieldLink RX4 22 "QuietChecks$Plan" "kinds" "[I", Cond.fieldLink RX4 26 "QuietChecks$Plan" "firsts" "[I", Cond.fieldLink RX4 29 "QuietChecks$Plan" "seconds" "[I", Cond.fieldLink RX4 32 "QuietChecks$Plan" "commands" "I", Cond.fieldLink RX4 35 "QuietChecks$Plan" "value" "I", Cond.methodLink RX6 35 yJ4_init_da8c8, Cond.instanceMethod yJ4_init_da8c8, Cond.code yJ4_init_da8c8 cJ4_init_da8c8 1 none, Cond.methodLink RJ4 1 yJ5_init_d00df, Cond.instanceMethod yJ5_init_d00df, Cond.initialized RJ5, Cond.code yJ5_init_d00df cJ5_init_d00df 2 none, Cond.methodLink RJ5 3 objectInit, Cond.fieldLink RJ5 18 "java/lang/String" "COMPACT_STRINGS" "Z", Cond.arrayClass .byte, Cond.fieldLink RJ5 15 "java/lang/AbstractStringBuilder" "value" "[B", Cond.fieldLink RJ5 22 "java/lang/AbstractStringBuilder" "coder" "B", Cond.methodLink RJ5 26 yJ2_newBytesFor_77867, Cond.static yJ2_newBytesFor_77867, Cond.initialized RJ2, Cond.code yJ2_newBytesFor_77867 cJ2_newBytesFor_77867 1 (some (.array .byte)), Cond.methodLink RJ2 11 yJ2_newBytesLength_0f7a4]
def wsL_law_r6 : List Cond := [Cond.static yJ2_newBytesLength_0f7a4, Cond.code yJ2_newBytesLength_0f7a4 cJ2_newBytesLength_0f7a4 1 (some .int), Cond.constant RJ2 20 (1073741823), Cond.methodLink RL 12 yX7_init, Cond.instanceMethod yX7_init, Cond.code yX7_init cX7_init 1 none, Cond.methodLink RX7 1 objectInit, Cond.fieldLink RX7 7 "QuietChecksModel" "state" "[I", Cond.fieldLink RX7 13 "QuietChecksModel" "kept" "[I", Cond.fieldLink RX7 16 "QuietChecksModel" "history" "[I", Cond.fieldLink RX7 19 "QuietChecksModel" "text" "[I", Cond.methodLink RL 13 yX6_set, Cond.instanceMethod yX6_set, Cond.selects RX6 yX6_set yX6_set, Cond.code yX6_set cX6_set 3 (some .int), Cond.methodLink RX6 40 yX2_draft, Cond.instanceMethod yX2_draft, Cond.selects RX2 yX2_draft yX2_draft, Cond.code yX2_draft cX2_draft 3 none, Cond.methodLink RX2 22 yX2_rowAt, Cond.instanceMethod yX2_rowAt, Cond.selects RX2 yX2_rowAt yX2_rowAt, Cond.code yX2_rowAt cX2_rowAt 2 (some (.object "QuietChecks$Disk")), Cond.methodLink RX2 26 yX1_copyFrom]
def wsL_law_r7 : List Cond := [Cond.instanceMethod yX1_copyFrom, Cond.selects RX1 yX1_copyFrom yX1_copyFrom, Cond.code yX1_copyFrom cX1_copyFrom 2 none, Cond.methodLink RX1 85 yX5_copyFrom, Cond.instanceMethod yX5_copyFrom, Cond.selects RX5 yX5_copyFrom yX5_copyFrom, Cond.code yX5_copyFrom cX5_copyFrom 2 none, Cond.methodLink RX5 22 arraycopyName, Cond.methodLink RX1 89 yX0_copyFrom, Cond.instanceMethod yX0_copyFrom, Cond.selects RX0 yX0_copyFrom yX0_copyFrom, Cond.code yX0_copyFrom cX0_copyFrom 2 none, Cond.methodLink RX0 19 arraycopyName, Cond.methodLink RX1 92 yX3_copyFrom, Cond.instanceMethod yX3_copyFrom, Cond.selects RX3 yX3_copyFrom yX3_copyFrom, Cond.code yX3_copyFrom cX3_copyFrom 2 none, Cond.methodLink RX3 28 arraycopyName, Cond.methodLink RX6 44 yX1_changeSetting, Cond.instanceMethod yX1_changeSetting, Cond.selects RX1 yX1_changeSetting yX1_changeSetting, Cond.code yX1_changeSetting cX1_changeSetting 4 (some .int), Cond.static yX6_isSetting, Cond.code yX6_isSetting cX6_isSetting 1 (some .boolean)]
def wsL_law_r8 : List Cond := [Cond.methodLink RX6 48 yX2_keep, Cond.instanceMethod yX2_keep, Cond.selects RX2 yX2_keep yX2_keep, Cond.code yX2_keep cX2_keep 2 (some .int), Cond.methodLink RX2 30 yX2_discardOldest, Cond.instanceMethod yX2_discardOldest, Cond.selects RX2 yX2_discardOldest yX2_discardOldest, Cond.code yX2_discardOldest cX2_discardOldest 3 none, Cond.methodLink RL 17 yX7_set, Cond.instanceMethod yX7_set, Cond.selects RX7 yX7_set yX7_set, Cond.code yX7_set cX7_set 3 (some .int), Cond.methodLink RX7 115 yX7_isSetting, Cond.static yX7_isSetting, Cond.code yX7_isSetting cX7_isSetting 1 (some .boolean), Cond.methodLink RX7 30 yX7_within, Cond.static yX7_within, Cond.code yX7_within cX7_within 3 (some .boolean), Cond.methodLink RX7 118 yX7_fits, Cond.static yX7_fits, Cond.code yX7_fits cX7_fits 2 (some .boolean), Cond.methodLink RX7 122 yX7_sets, Cond.instanceMethod yX7_sets, Cond.selects RX7 yX7_sets yX7_sets]
def wsL_law_r9 : List Cond := [Cond.code yX7_sets cX7_sets 4 (some .int), Cond.methodLink RX7 112 yX7_record, Cond.instanceMethod yX7_record, Cond.selects RX7 yX7_record yX7_record, Cond.code yX7_record cX7_record 2 none, Cond.fieldLink RX7 22 "QuietChecksModel" "recorded" "I", Cond.methodLink RX7 26 yX7_copies, Cond.static yX7_copies, Cond.code yX7_copies cX7_copies 5 none, Cond.methodLink RL 18 yX6_setWay, Cond.instanceMethod yX6_setWay, Cond.selects RX6 yX6_setWay yX6_setWay, Cond.code yX6_setWay cX6_setWay 2 (some .int), Cond.methodLink RX6 52 yX1_changeWay, Cond.instanceMethod yX1_changeWay, Cond.selects RX1 yX1_changeWay yX1_changeWay, Cond.code yX1_changeWay cX1_changeWay 3 (some .int), Cond.methodLink RL 22 yX7_setWay, Cond.instanceMethod yX7_setWay, Cond.selects RX7 yX7_setWay yX7_setWay, Cond.code yX7_setWay cX7_setWay 2 (some .int), Cond.methodLink RL 23 yX6_addSpares, Cond.instanceMethod yX6_addSpares, Cond.selects RX6 yX6_addSpares yX6_addSpares]
def wsL_law_r10 : List Cond := [Cond.code yX6_addSpares cX6_addSpares 2 (some .int), Cond.methodLink RX6 55 yX1_takeSpares, Cond.instanceMethod yX1_takeSpares, Cond.selects RX1 yX1_takeSpares yX1_takeSpares, Cond.code yX1_takeSpares cX1_takeSpares 2 (some .int), Cond.methodLink RL 26 yX7_addSpares, Cond.instanceMethod yX7_addSpares, Cond.selects RX7 yX7_addSpares yX7_addSpares, Cond.code yX7_addSpares cX7_addSpares 2 (some .int), Cond.methodLink RL 27 yX6_spot, Cond.instanceMethod yX6_spot, Cond.selects RX6 yX6_spot yX6_spot, Cond.code yX6_spot cX6_spot 3 (some .int), Cond.methodLink RX6 58 yX1_takeSpot, Cond.instanceMethod yX1_takeSpot, Cond.selects RX1 yX1_takeSpot yX1_takeSpot, Cond.code yX1_takeSpot cX1_takeSpot 3 (some .int), Cond.static yX6_isSpan, Cond.code yX6_isSpan cX6_isSpan 1 (some .boolean), Cond.methodLink RX1 108 yX5_append, Cond.instanceMethod yX5_append, Cond.selects RX5 yX5_append yX5_append, Cond.code yX5_append cX5_append 3 (some .boolean), Cond.methodLink RX1 112 yX5_sizeOf]
def wsL_law_r11 : List Cond := [Cond.instanceMethod yX5_sizeOf, Cond.selects RX5 yX5_sizeOf yX5_sizeOf, Cond.code yX5_sizeOf cX5_sizeOf 4 (some .int), Cond.methodLink RL 30 yX7_spot, Cond.instanceMethod yX7_spot, Cond.selects RX7 yX7_spot yX7_spot, Cond.code yX7_spot cX7_spot 4 (some .int), Cond.methodLink RX7 131 yX7_whyNotSpot, Cond.instanceMethod yX7_whyNotSpot, Cond.selects RX7 yX7_whyNotSpot yX7_whyNotSpot, Cond.code yX7_whyNotSpot cX7_whyNotSpot 3 (some .int), Cond.methodLink RX7 125 yX7_isSpan, Cond.static yX7_isSpan, Cond.code yX7_isSpan cX7_isSpan 1 (some .boolean), Cond.methodLink RX7 134 yX7_adds, Cond.instanceMethod yX7_adds, Cond.selects RX7 yX7_adds yX7_adds, Cond.code yX7_adds cX7_adds 3 (some .int), Cond.methodLink RX7 128 yX7_spotsMany, Cond.instanceMethod yX7_spotsMany, Cond.selects RX7 yX7_spotsMany yX7_spotsMany, Cond.code yX7_spotsMany cX7_spotsMany 4 (some .int), Cond.methodLink RX7 73 yX7_spotSpan, Cond.instanceMethod yX7_spotSpan]
def wsL_law_r12 : List Cond := [Cond.selects RX7 yX7_spotSpan yX7_spotSpan, Cond.code yX7_spotSpan cX7_spotSpan 2 (some .int), Cond.methodLink RL 31 yX6_ask, Cond.instanceMethod yX6_ask, Cond.selects RX6 yX6_ask yX6_ask, Cond.code yX6_ask cX6_ask 2 (some .int), Cond.methodLink RX6 61 yX1_askByHand, Cond.instanceMethod yX1_askByHand, Cond.selects RX1 yX1_askByHand yX1_askByHand, Cond.code yX1_askByHand cX1_askByHand 2 (some .int), Cond.methodLink RX1 116 yX0_placeOf, Cond.instanceMethod yX0_placeOf, Cond.selects RX0 yX0_placeOf yX0_placeOf, Cond.code yX0_placeOf cX0_placeOf 3 (some .int), Cond.methodLink RX1 119 yX0_append, Cond.instanceMethod yX0_append, Cond.selects RX0 yX0_append yX0_append, Cond.code yX0_append cX0_append 2 (some .boolean), Cond.methodLink RL 34 yX7_ask, Cond.instanceMethod yX7_ask, Cond.selects RX7 yX7_ask yX7_ask, Cond.code yX7_ask cX7_ask 3 (some .int), Cond.methodLink RX7 140 yX7_whyNotAsked, Cond.instanceMethod yX7_whyNotAsked]
def wsL_law_r13 : List Cond := [Cond.selects RX7 yX7_whyNotAsked yX7_whyNotAsked, Cond.code yX7_whyNotAsked cX7_whyNotAsked 2 (some .int), Cond.methodLink RX7 137 yX7_placeOf, Cond.instanceMethod yX7_placeOf, Cond.selects RX7 yX7_placeOf yX7_placeOf, Cond.code yX7_placeOf cX7_placeOf 4 (some .int), Cond.methodLink RX7 143 yX7_asks, Cond.instanceMethod yX7_asks, Cond.selects RX7 yX7_asks yX7_asks, Cond.code yX7_asks cX7_asks 2 (some .int), Cond.methodLink RL 35 yX6_unask, Cond.instanceMethod yX6_unask, Cond.selects RX6 yX6_unask yX6_unask, Cond.code yX6_unask cX6_unask 2 (some .int), Cond.methodLink RX6 64 yX1_withdraw, Cond.instanceMethod yX1_withdraw, Cond.selects RX1 yX1_withdraw yX1_withdraw, Cond.code yX1_withdraw cX1_withdraw 2 (some .int), Cond.methodLink RX1 124 yX0_drop, Cond.instanceMethod yX0_drop, Cond.selects RX0 yX0_drop yX0_drop, Cond.code yX0_drop cX0_drop 4 (some .boolean), Cond.methodLink RX0 25 yX0_placeOf, Cond.methodLink RL 38 yX7_unask]
def wsL_law_r14 : List Cond := [Cond.instanceMethod yX7_unask, Cond.selects RX7 yX7_unask yX7_unask, Cond.code yX7_unask cX7_unask 3 (some .int), Cond.methodLink RX7 89 yX7_takesOut, Cond.instanceMethod yX7_takesOut, Cond.selects RX7 yX7_takesOut yX7_takesOut, Cond.code yX7_takesOut cX7_takesOut 3 none, Cond.methodLink RL 39 yX6_read, Cond.instanceMethod yX6_read, Cond.selects RX6 yX6_read yX6_read, Cond.code yX6_read cX6_read 3 (some .int), Cond.methodLink RX6 67 yX1_hostReads, Cond.instanceMethod yX1_hostReads, Cond.selects RX1 yX1_hostReads yX1_hostReads, Cond.code yX1_hostReads cX1_hostReads 3 (some .int), Cond.constant RX1 127 (99999), Cond.methodLink RX1 128 yX1_pauseCheck, Cond.instanceMethod yX1_pauseCheck, Cond.selects RX1 yX1_pauseCheck yX1_pauseCheck, Cond.code yX1_pauseCheck cX1_pauseCheck 1 none, Cond.methodLink RX1 176 Lib.Math.max.name, Cond.static Lib.Math.max.name, Cond.initialized "java/lang/Math", Cond.code Lib.Math.max.name Lib.Math.max.code 2 (some .int)]
def wsL_law_r15 : List Cond := [Cond.methodLink RX1 134 yX3_append, Cond.instanceMethod yX3_append, Cond.selects RX3 yX3_append yX3_append, Cond.code yX3_append cX3_append 4 none, Cond.methodLink RX1 131 yX5_hasWeak, Cond.instanceMethod yX5_hasWeak, Cond.selects RX5 yX5_hasWeak yX5_hasWeak, Cond.code yX5_hasWeak cX5_hasWeak 4 (some .boolean), Cond.methodLink RX1 137 yX1_askByHand, Cond.methodLink RL 42 yX7_read, Cond.instanceMethod yX7_read, Cond.selects RX7 yX7_read yX7_read, Cond.code yX7_read cX7_read 4 (some .int), Cond.methodLink RX7 150 yX7_whyNotRead, Cond.instanceMethod yX7_whyNotRead, Cond.selects RX7 yX7_whyNotRead yX7_whyNotRead, Cond.code yX7_whyNotRead cX7_whyNotRead 3 (some .int), Cond.constant RX7 146 (99999), Cond.methodLink RX7 153 yX7_reads, Cond.instanceMethod yX7_reads, Cond.selects RX7 yX7_reads yX7_reads, Cond.code yX7_reads cX7_reads 3 (some .int), Cond.methodLink RX7 96 yX7_logs, Cond.instanceMethod yX7_logs]
def wsL_law_r16 : List Cond := [Cond.selects RX7 yX7_logs yX7_logs, Cond.code yX7_logs cX7_logs 4 none, Cond.methodLink RX7 147 yX7_isSlow, Cond.instanceMethod yX7_isSlow, Cond.selects RX7 yX7_isSlow yX7_isSlow, Cond.code yX7_isSlow cX7_isSlow 4 (some .boolean), Cond.methodLink RX7 70 yX7_spotTries, Cond.instanceMethod yX7_spotTries, Cond.selects RX7 yX7_spotTries yX7_spotTries, Cond.code yX7_spotTries cX7_spotTries 2 (some .int), Cond.methodLink RL 43 yX6_quiet, Cond.instanceMethod yX6_quiet, Cond.selects RX6 yX6_quiet yX6_quiet, Cond.code yX6_quiet cX6_quiet 2 (some .int), Cond.methodLink RX6 70 yX1_passQuietTicks, Cond.instanceMethod yX1_passQuietTicks, Cond.selects RX1 yX1_passQuietTicks yX1_passQuietTicks, Cond.code yX1_passQuietTicks cX1_passQuietTicks 4 (some .int), Cond.methodLink RX1 140 yX1_passQuietTick, Cond.instanceMethod yX1_passQuietTick, Cond.selects RX1 yX1_passQuietTick yX1_passQuietTick, Cond.code yX1_passQuietTick cX1_passQuietTick 2 (some .int), Cond.methodLink RX1 144 yX1_chooseSpan, Cond.instanceMethod yX1_chooseSpan]
def wsL_law_r17 : List Cond := [Cond.selects RX1 yX1_chooseSpan yX1_chooseSpan, Cond.code yX1_chooseSpan cX1_chooseSpan 6 (some .int), Cond.methodLink RX1 160 yX1_isDue, Cond.instanceMethod yX1_isDue, Cond.selects RX1 yX1_isDue yX1_isDue, Cond.code yX1_isDue cX1_isDue 2 (some .boolean), Cond.methodLink RX1 166 yX1_ageOf, Cond.instanceMethod yX1_ageOf, Cond.selects RX1 yX1_ageOf yX1_ageOf, Cond.code yX1_ageOf cX1_ageOf 2 (some .int), Cond.methodLink RX1 163 yX1_rankOf, Cond.instanceMethod yX1_rankOf, Cond.selects RX1 yX1_rankOf yX1_rankOf, Cond.code yX1_rankOf cX1_rankOf 2 (some .int), Cond.methodLink RX1 169 yX5_sumOf, Cond.instanceMethod yX5_sumOf, Cond.selects RX5 yX5_sumOf yX5_sumOf, Cond.code yX5_sumOf cX5_sumOf 5 (some .int), Cond.methodLink RX5 28 Lib.Math.min.name, Cond.static Lib.Math.min.name, Cond.code Lib.Math.min.name Lib.Math.min.code 2 (some .int), Cond.methodLink RX1 147 yX1_beginCheck, Cond.instanceMethod yX1_beginCheck, Cond.selects RX1 yX1_beginCheck yX1_beginCheck]
def wsL_law_r18 : List Cond := [Cond.code yX1_beginCheck cX1_beginCheck 2 none, Cond.methodLink RX1 173 yX1_ticksOfCheck, Cond.instanceMethod yX1_ticksOfCheck, Cond.selects RX1 yX1_ticksOfCheck yX1_ticksOfCheck, Cond.code yX1_ticksOfCheck cX1_ticksOfCheck 2 (some .int), Cond.methodLink RX1 151 yX1_endCheck, Cond.instanceMethod yX1_endCheck, Cond.selects RX1 yX1_endCheck yX1_endCheck, Cond.code yX1_endCheck cX1_endCheck 4 none, Cond.methodLink RX1 154 yX1_clearCheck, Cond.instanceMethod yX1_clearCheck, Cond.selects RX1 yX1_clearCheck yX1_clearCheck, Cond.code yX1_clearCheck cX1_clearCheck 1 none, Cond.methodLink RX1 186 yX1_lookAtSpot, Cond.instanceMethod yX1_lookAtSpot, Cond.selects RX1 yX1_lookAtSpot yX1_lookAtSpot, Cond.code yX1_lookAtSpot cX1_lookAtSpot 4 none, Cond.methodLink RL 46 yX7_quiet, Cond.instanceMethod yX7_quiet, Cond.selects RX7 yX7_quiet yX7_quiet, Cond.code yX7_quiet cX7_quiet 3 (some .int), Cond.methodLink RX7 156 yX7_whyNotQuiet, Cond.instanceMethod yX7_whyNotQuiet, Cond.selects RX7 yX7_whyNotQuiet yX7_whyNotQuiet]
def wsL_law_r19 : List Cond := [Cond.code yX7_whyNotQuiet cX7_whyNotQuiet 2 (some .int), Cond.methodLink RX7 159 yX7_passes, Cond.instanceMethod yX7_passes, Cond.selects RX7 yX7_passes yX7_passes, Cond.code yX7_passes cX7_passes 4 (some .int), Cond.methodLink RX7 109 yX7_passesTick, Cond.instanceMethod yX7_passesTick, Cond.selects RX7 yX7_passesTick yX7_passesTick, Cond.code yX7_passesTick cX7_passesTick 2 (some .int), Cond.methodLink RX7 103 yX7_begins, Cond.instanceMethod yX7_begins, Cond.selects RX7 yX7_begins yX7_begins, Cond.code yX7_begins cX7_begins 2 none, Cond.methodLink RX7 86 yX7_nextSpan, Cond.instanceMethod yX7_nextSpan, Cond.selects RX7 yX7_nextSpan yX7_nextSpan, Cond.code yX7_nextSpan cX7_nextSpan 1 (some .int), Cond.methodLink RX7 83 yX7_bestDue, Cond.instanceMethod yX7_bestDue, Cond.selects RX7 yX7_bestDue yX7_bestDue, Cond.code yX7_bestDue cX7_bestDue 6 (some .int), Cond.methodLink RX7 67 yX7_age, Cond.instanceMethod yX7_age, Cond.selects RX7 yX7_age yX7_age]
def wsL_law_r20 : List Cond := [Cond.code yX7_age cX7_age 2 (some .int), Cond.methodLink RX7 76 yX7_sumOf, Cond.instanceMethod yX7_sumOf, Cond.selects RX7 yX7_sumOf yX7_sumOf, Cond.code yX7_sumOf cX7_sumOf 6 (some .int), Cond.methodLink RX7 79 yX7_isDue, Cond.instanceMethod yX7_isDue, Cond.selects RX7 yX7_isDue yX7_isDue, Cond.code yX7_isDue cX7_isDue 2 (some .boolean), Cond.methodLink RX7 93 yX7_takes, Cond.instanceMethod yX7_takes, Cond.selects RX7 yX7_takes yX7_takes, Cond.code yX7_takes cX7_takes 2 (some .int), Cond.methodLink RX7 106 yX7_endsCheck, Cond.instanceMethod yX7_endsCheck, Cond.selects RX7 yX7_endsCheck yX7_endsCheck, Cond.code yX7_endsCheck cX7_endsCheck 9 none, Cond.methodLink RX7 100 yX7_stops, Cond.instanceMethod yX7_stops, Cond.selects RX7 yX7_stops yX7_stops, Cond.code yX7_stops cX7_stops 1 none, Cond.methodLink RL 47 yX6_giveUp, Cond.instanceMethod yX6_giveUp, Cond.selects RX6 yX6_giveUp yX6_giveUp]
def wsL_law_r21 : List Cond := [Cond.code yX6_giveUp cX6_giveUp 1 (some .int), Cond.methodLink RX6 73 yX1_dropCheck, Cond.instanceMethod yX1_dropCheck, Cond.selects RX1 yX1_dropCheck yX1_dropCheck, Cond.code yX1_dropCheck cX1_dropCheck 2 (some .int), Cond.methodLink RL 51 yX7_giveUp, Cond.instanceMethod yX7_giveUp, Cond.selects RX7 yX7_giveUp yX7_giveUp, Cond.code yX7_giveUp cX7_giveUp 2 (some .int), Cond.methodLink RL 52 yX6_count, Cond.instanceMethod yX6_count, Cond.selects RX6 yX6_count yX6_count, Cond.code yX6_count cX6_count 2 (some .int), Cond.methodLink RX6 77 yX1_numberOfDisk, Cond.instanceMethod yX1_numberOfDisk, Cond.selects RX1 yX1_numberOfDisk yX1_numberOfDisk, Cond.code yX1_numberOfDisk cX1_numberOfDisk 2 (some .int), Cond.methodLink RL 55 yX7_count, Cond.instanceMethod yX7_count, Cond.selects RX7 yX7_count yX7_count, Cond.code yX7_count cX7_count 2 (some .int), Cond.methodLink RL 56 yX6_setting, Cond.instanceMethod yX6_setting, Cond.selects RX6 yX6_setting yX6_setting]
def wsL_law_r22 : List Cond := [Cond.code yX6_setting cX6_setting 2 (some .int), Cond.methodLink RX6 80 yX6_isSetting, Cond.methodLink RL 59 yX7_setting, Cond.instanceMethod yX7_setting, Cond.selects RX7 yX7_setting yX7_setting, Cond.code yX7_setting cX7_setting 2 (some .int), Cond.methodLink RL 60 yX6_span, Cond.instanceMethod yX6_span, Cond.selects RX6 yX6_span yX6_span, Cond.code yX6_span cX6_span 3 (some .int), Cond.methodLink RX6 88 yX6_isSpan, Cond.methodLink RX6 91 yX1_numberOfSpan, Cond.instanceMethod yX1_numberOfSpan, Cond.selects RX1 yX1_numberOfSpan yX1_numberOfSpan, Cond.code yX1_numberOfSpan cX1_numberOfSpan 3 (some .int), Cond.methodLink RX1 189 yX1_isOverdue, Cond.instanceMethod yX1_isOverdue, Cond.selects RX1 yX1_isOverdue yX1_isOverdue, Cond.code yX1_isOverdue cX1_isOverdue 2 (some .boolean), Cond.methodLink RL 63 yX7_span, Cond.instanceMethod yX7_span, Cond.selects RX7 yX7_span yX7_span, Cond.code yX7_span cX7_span 3 (some .int), Cond.methodLink RX7 162 yX7_ofSpan]
def wsL_law_r23 : List Cond := [Cond.instanceMethod yX7_ofSpan, Cond.selects RX7 yX7_ofSpan yX7_ofSpan, Cond.code yX7_ofSpan cX7_ofSpan 3 (some .int), Cond.methodLink RL 64 yX6_tries, Cond.instanceMethod yX6_tries, Cond.selects RX6 yX6_tries yX6_tries, Cond.code yX6_tries cX6_tries 3 (some .int), Cond.methodLink RX6 98 yX5_triesAt, Cond.instanceMethod yX5_triesAt, Cond.selects RX5 yX5_triesAt yX5_triesAt, Cond.code yX5_triesAt cX5_triesAt 5 (some .int), Cond.methodLink RL 67 yX7_tries, Cond.instanceMethod yX7_tries, Cond.selects RX7 yX7_tries yX7_tries, Cond.code yX7_tries cX7_tries 5 (some .int), Cond.methodLink RL 68 yX6_entries, Cond.instanceMethod yX6_entries, Cond.selects RX6 yX6_entries yX6_entries, Cond.code yX6_entries cX6_entries 1 (some .int), Cond.methodLink RL 71 yX7_entries, Cond.instanceMethod yX7_entries, Cond.selects RX7 yX7_entries yX7_entries, Cond.code yX7_entries cX7_entries 1 (some .int), Cond.methodLink RX7 34 yX7_entriesMany]
def wsL_law_r24 : List Cond := [Cond.instanceMethod yX7_entriesMany, Cond.selects RX7 yX7_entriesMany yX7_entriesMany, Cond.code yX7_entriesMany cX7_entriesMany 1 (some .int), Cond.methodLink RL 72 yX6_entry, Cond.instanceMethod yX6_entry, Cond.selects RX6 yX6_entry yX6_entry, Cond.code yX6_entry cX6_entry 3 (some .int), Cond.methodLink RX6 113 yX3_has, Cond.instanceMethod yX3_has, Cond.selects RX3 yX3_has yX3_has, Cond.code yX3_has cX3_has 2 (some .boolean), Cond.methodLink RX6 116 yX3_tickAt, Cond.instanceMethod yX3_tickAt, Cond.selects RX3 yX3_tickAt yX3_tickAt, Cond.code yX3_tickAt cX3_tickAt 2 (some .int), Cond.methodLink RX3 34 yX3_placeOf, Cond.instanceMethod yX3_placeOf, Cond.selects RX3 yX3_placeOf yX3_placeOf, Cond.code yX3_placeOf cX3_placeOf 2 (some .int), Cond.methodLink RX3 38 yJ9_floorMod_7cf53, Cond.static yJ9_floorMod_7cf53, Cond.initialized RJ9, Cond.code yJ9_floorMod_7cf53 cJ9_floorMod_7cf53 3 (some .int), Cond.methodLink RX6 119 yX3_kindAt]
def wsL_law_r25 : List Cond := [Cond.instanceMethod yX3_kindAt, Cond.selects RX3 yX3_kindAt yX3_kindAt, Cond.code yX3_kindAt cX3_kindAt 2 (some .int), Cond.methodLink RX6 122 yX3_spanAt, Cond.instanceMethod yX3_spanAt, Cond.selects RX3 yX3_spanAt yX3_spanAt, Cond.code yX3_spanAt cX3_spanAt 2 (some .int), Cond.methodLink RX6 125 yX6_writeLine, Cond.instanceMethod yX6_writeLine, Cond.selects RX6 yX6_writeLine yX6_writeLine, Cond.code yX6_writeLine cX6_writeLine 2 none, Cond.methodLink RX6 208 yJ4_setLength_d00df, Cond.instanceMethod yJ4_setLength_d00df, Cond.selects RJ4 yJ4_setLength_d00df yJ4_setLength_d00df, Cond.code yJ4_setLength_d00df cJ4_setLength_d00df 2 none, Cond.methodLink RJ4 333 yJ5_setLength_d00df, Cond.sameMethod "java/lang/AbstractStringBuilder" "java/lang/AbstractStringBuilder" "setLength" "(I)V", Cond.superclass RJ4 RJ5, Cond.instanceMethod yJ5_setLength_d00df, Cond.code yJ5_setLength_d00df cJ5_setLength_d00df 2 none, Cond.fieldLink RJ5 79 "java/lang/AbstractStringBuilder" "count" "I", Cond.fieldLink RJ5 73 "java/lang/AbstractStringBuilder" "maybeLatin1" "Z", Cond.methodLink RJ5 100 ⟨"java/lang/AbstractStringBuilder", "ensureCapacityInternal", "(I)V"⟩, Cond.sameMethod "java/lang/AbstractStringBuilder" "java/lang/AbstractStringBuilder" "ensureCapacityInternal" "(I)V"]
def wsL_law_r26 : List Cond := [Cond.selects RJ4 ⟨"java/lang/AbstractStringBuilder", "ensureCapacityInternal", "(I)V"⟩ yJ5_ensureCapacityInternal_d00df, Cond.instanceMethod yJ5_ensureCapacityInternal_d00df, Cond.code yJ5_ensureCapacityInternal_d00df cJ5_ensureCapacityInternal_d00df 3 none, Cond.methodLink RJ5 104 ⟨"java/lang/AbstractStringBuilder", "newCapacity", "(I)I"⟩, Cond.sameMethod "java/lang/AbstractStringBuilder" "java/lang/AbstractStringBuilder" "newCapacity" "(I)I", Cond.selects RJ4 ⟨"java/lang/AbstractStringBuilder", "newCapacity", "(I)I"⟩ yJ5_newCapacity_0f7a4, Cond.instanceMethod yJ5_newCapacity_0f7a4, Cond.code yJ5_newCapacity_0f7a4 cJ5_newCapacity_0f7a4 6 (some .int), Cond.constant RJ5 39 (2147483647), Cond.methodLink RJ5 114 yJ8_newLength_cabcc, Cond.static yJ8_newLength_cabcc, Cond.initialized RJ8, Cond.code yJ8_newLength_cabcc cJ8_newLength_cabcc 4 (some .int), Cond.methodLink RJ8 194 Lib.Math.max.name, Cond.constant RJ8 200 (2147483639), Cond.methodLink RJ8 201 yJ8_hugeLength_7cf53, Cond.static yJ8_hugeLength_7cf53, Cond.code yJ8_hugeLength_7cf53 cJ8_hugeLength_7cf53 3 (some .int), Cond.methodLink RJ5 108 yJ7_copyOf_9075b, Cond.static yJ7_copyOf_9075b, Cond.initialized RJ7, Cond.code yJ7_copyOf_9075b cJ7_copyOf_9075b 3 (some (.array .byte)), Cond.methodLink RJ7 310 ⟨"[B", "clone", "()Ljava/lang/Object;"⟩, Cond.sameMethod "[B" "java/lang/Object" "clone" "()Ljava/lang/Object;"]
def wsL_law_r27 : List Cond := [Cond.native ⟨"java/lang/Object", "clone", "()Ljava/lang/Object;"⟩, Cond.instanceMethod ⟨"java/lang/Object", "clone", "()Ljava/lang/Object;"⟩, Cond.selects "[B" ⟨"[B", "clone", "()Ljava/lang/Object;"⟩ ⟨"java/lang/Object", "clone", "()Ljava/lang/Object;"⟩, Cond.classLink RJ7 311 "[B", Cond.methodLink RJ7 304 Lib.Math.min.name, Cond.methodLink RJ7 150 arraycopyName, Cond.methodLink RJ5 83 ⟨"java/lang/AbstractStringBuilder", "isLatin1", "()Z"⟩, Cond.sameMethod "java/lang/AbstractStringBuilder" "java/lang/AbstractStringBuilder" "isLatin1" "()Z", Cond.selects RJ4 ⟨"java/lang/AbstractStringBuilder", "isLatin1", "()Z"⟩ yJ5_isLatin1_aae02, Cond.instanceMethod yJ5_isLatin1_aae02, Cond.code yJ5_isLatin1_aae02 cJ5_isLatin1_aae02 1 (some .boolean), Cond.methodLink RJ5 133 yJ1_fillNull_b72d1, Cond.static yJ1_fillNull_b72d1, Cond.initialized RJ1, Cond.code yJ1_fillNull_b72d1 cJ1_fillNull_b72d1 3 none, Cond.methodLink RJ1 236 yJ7_fill_eb02e, Cond.static yJ7_fill_eb02e, Cond.code yJ7_fill_eb02e cJ7_fill_eb02e 5 none, Cond.methodLink RJ7 13 yJ7_rangeCheck_23922, Cond.static yJ7_rangeCheck_23922, Cond.code yJ7_rangeCheck_23922 cJ7_rangeCheck_23922 3 none, Cond.methodLink RJ5 137 yJ2_fillNull_b72d1, Cond.static yJ2_fillNull_b72d1, Cond.code yJ2_fillNull_b72d1 cJ2_fillNull_b72d1 3 none]
def wsL_law_r28 : List Cond := [Cond.methodLink RJ2 380 yJ7_fill_eb02e, Cond.methodLink RX6 211 yJ4_append_bf812, Cond.instanceMethod yJ4_append_bf812, Cond.selects RJ4 yJ4_append_bf812 yJ4_append_bf812, Cond.code yJ4_append_bf812 cJ4_append_bf812 2 (some (.object "java/lang/StringBuilder")), Cond.methodLink RJ4 53 yJ5_append_c97b9, Cond.sameMethod "java/lang/AbstractStringBuilder" "java/lang/AbstractStringBuilder" "append" "(I)Ljava/lang/AbstractStringBuilder;", Cond.instanceMethod yJ5_append_c97b9, Cond.code yJ5_append_c97b9 cJ5_append_c97b9 4 (some (.object "java/lang/AbstractStringBuilder")), Cond.methodLink RJ5 245 yJ6_stringSize_0f7a4, Cond.static yJ6_stringSize_0f7a4, Cond.initialized RJ6, Cond.code yJ6_stringSize_0f7a4 cJ6_stringSize_0f7a4 4 (some .int), Cond.methodLink RJ5 248 yJ6_getChars_ba4f3, Cond.static yJ6_getChars_ba4f3, Cond.code yJ6_getChars_ba4f3 cJ6_getChars_ba4f3 7 (some .int), Cond.fieldLink RJ6 83 "java/lang/Integer" "DigitOnes" "[B", Cond.fieldLink RJ6 87 "java/lang/Integer" "DigitTens" "[B", Cond.methodLink RJ5 251 yJ2_getChars_46870, Cond.static yJ2_getChars_46870, Cond.code yJ2_getChars_46870 cJ2_getChars_46870 5 (some .int), Cond.fieldLink RJ2 44 "java/lang/StringUTF16" "$assertionsDisabled" "Z", Cond.methodLink RJ2 96 yJ2_checkBoundsBeginEnd_d044e, Cond.static yJ2_checkBoundsBeginEnd_d044e]
def wsL_law_r29 : List Cond := [Cond.code yJ2_checkBoundsBeginEnd_d044e cJ2_checkBoundsBeginEnd_d044e 3 none, Cond.methodLink RJ2 48 yJ2_length_9d52b, Cond.static yJ2_length_9d52b, Cond.code yJ2_length_9d52b cJ2_length_9d52b 1 (some .int), Cond.methodLink RJ2 241 yJ0_checkBoundsBeginEnd_23922, Cond.static yJ0_checkBoundsBeginEnd_23922, Cond.initialized RJ0, Cond.code yJ0_checkBoundsBeginEnd_23922 cJ0_checkBoundsBeginEnd_23922 3 none, Cond.fieldLink RJ0 1053 "jdk/internal/util/Preconditions" "SIOOBE_FORMATTER" "Ljava/util/function/BiFunction;", Cond.methodLink RJ0 1062 yJ3_checkFromToIndex_8c36e, Cond.static yJ3_checkFromToIndex_8c36e, Cond.initialized RJ3, Cond.code yJ3_checkFromToIndex_8c36e cJ3_checkFromToIndex_8c36e 4 (some .int), Cond.methodLink RJ2 393 yJ2_getChars_ba4f3, Cond.static yJ2_getChars_ba4f3, Cond.code yJ2_getChars_ba4f3 cJ2_getChars_ba4f3 7 (some .int), Cond.fieldLink RJ2 403 "java/lang/Integer" "DigitOnes" "[B", Cond.fieldLink RJ2 407 "java/lang/Integer" "DigitTens" "[B", Cond.methodLink RJ2 111 yJ2_putChar_b72d1, Cond.static yJ2_putChar_b72d1, Cond.code yJ2_putChar_b72d1 cJ2_putChar_b72d1 3 none, Cond.fieldLink RJ2 59 "java/lang/StringUTF16" "HI_BYTE_SHIFT" "I", Cond.fieldLink RJ2 63 "java/lang/StringUTF16" "LO_BYTE_SHIFT" "I", Cond.methodLink RX6 214 yJ4_append_cf468]
def wsL_law_r30 : List Cond := [Cond.instanceMethod yJ4_append_cf468, Cond.selects RJ4 yJ4_append_cf468 yJ4_append_cf468, Cond.code yJ4_append_cf468 cJ4_append_cf468 2 (some (.object "java/lang/StringBuilder")), Cond.methodLink RJ4 50 yJ5_append_3fe6f, Cond.sameMethod "java/lang/AbstractStringBuilder" "java/lang/AbstractStringBuilder" "append" "(C)Ljava/lang/AbstractStringBuilder;", Cond.instanceMethod yJ5_append_3fe6f, Cond.code yJ5_append_3fe6f cJ5_append_3fe6f 2 (some (.object "java/lang/AbstractStringBuilder")), Cond.methodLink RJ5 191 yJ1_canEncode_fc78d, Cond.static yJ1_canEncode_fc78d, Cond.code yJ1_canEncode_fc78d cJ1_canEncode_fc78d 1 (some .boolean), Cond.methodLink RJ5 195 ⟨"java/lang/AbstractStringBuilder", "inflate", "()V"⟩, Cond.sameMethod "java/lang/AbstractStringBuilder" "java/lang/AbstractStringBuilder" "inflate" "()V", Cond.selects RJ4 ⟨"java/lang/AbstractStringBuilder", "inflate", "()V"⟩ yJ5_inflate_da8c8, Cond.instanceMethod yJ5_inflate_da8c8, Cond.code yJ5_inflate_da8c8 cJ5_inflate_da8c8 2 none, Cond.methodLink RJ5 125 yJ1_inflate_0e8fd, Cond.static yJ1_inflate_0e8fd, Cond.code yJ1_inflate_0e8fd cJ1_inflate_0e8fd 5 none, Cond.methodLink RJ1 240 yJ2_inflate_0e8fd, Cond.static yJ2_inflate_0e8fd, Cond.code yJ2_inflate_0e8fd cJ2_inflate_0e8fd 6 none, Cond.methodLink RJ2 173 yJ2_checkBoundsOffCount_d044e, Cond.static yJ2_checkBoundsOffCount_d044e, Cond.code yJ2_checkBoundsOffCount_d044e cJ2_checkBoundsOffCount_d044e 3 none]
def wsL_law_r31 : List Cond := [Cond.methodLink RJ2 419 yJ0_checkBoundsOffCount_cabcc, Cond.static yJ0_checkBoundsOffCount_cabcc, Cond.code yJ0_checkBoundsOffCount_cabcc cJ0_checkBoundsOffCount_cabcc 3 (some .int), Cond.methodLink RJ0 1065 yJ3_checkFromIndexSize_8c36e, Cond.static yJ3_checkFromIndexSize_8c36e, Cond.code yJ3_checkFromIndexSize_8c36e cJ3_checkFromIndexSize_8c36e 4 (some .int), Cond.methodLink RJ5 197 yJ2_putCharSB_b72d1, Cond.static yJ2_putCharSB_b72d1, Cond.code yJ2_putCharSB_b72d1 cJ2_putCharSB_b72d1 3 none, Cond.methodLink RJ2 67 yJ2_checkIndex_2214a, Cond.static yJ2_checkIndex_2214a, Cond.code yJ2_checkIndex_2214a cJ2_checkIndex_2214a 2 none, Cond.methodLink RJ2 414 yJ0_checkIndex_df160, Cond.static yJ0_checkIndex_df160, Cond.code yJ0_checkIndex_df160 cJ0_checkIndex_df160 2 none, Cond.methodLink RJ0 1059 yJ3_checkIndex_8e157, Cond.static yJ3_checkIndex_8e157, Cond.code yJ3_checkIndex_8e157 cJ3_checkIndex_8e157 3 (some .int), Cond.methodLink RX6 217 yX6_wordOf, Cond.static yX6_wordOf, Cond.code yX6_wordOf cX6_wordOf 1 (some (.object "java/lang/String")), Cond.methodLink RX6 221 yJ4_append_15ec4, Cond.instanceMethod yJ4_append_15ec4, Cond.selects RJ4 yJ4_append_15ec4 yJ4_append_15ec4]
def wsL_law_r32 : List Cond := [Cond.code yJ4_append_15ec4 cJ4_append_15ec4 2 (some (.object "java/lang/StringBuilder")), Cond.methodLink RJ4 29 yJ5_append_cf1ce, Cond.sameMethod "java/lang/AbstractStringBuilder" "java/lang/AbstractStringBuilder" "append" "(Ljava/lang/String;)Ljava/lang/AbstractStringBuilder;", Cond.instanceMethod yJ5_append_cf1ce, Cond.code yJ5_append_cf1ce cJ5_append_cf1ce 3 (some (.object "java/lang/AbstractStringBuilder")), Cond.methodLink RJ5 204 ⟨"java/lang/AbstractStringBuilder", "appendNull", "()Ljava/lang/AbstractStringBuilder;"⟩, Cond.sameMethod "java/lang/AbstractStringBuilder" "java/lang/AbstractStringBuilder" "appendNull" "()Ljava/lang/AbstractStringBuilder;", Cond.selects RJ4 ⟨"java/lang/AbstractStringBuilder", "appendNull", "()Ljava/lang/AbstractStringBuilder;"⟩ yJ5_appendNull_278bc, Cond.instanceMethod yJ5_appendNull_278bc, Cond.code yJ5_appendNull_278bc cJ5_appendNull_278bc 3 (some (.object "java/lang/AbstractStringBuilder")), Cond.methodLink RJ5 226 yJ2_putCharsAt_cd4e5, Cond.static yJ2_putCharsAt_cd4e5, Cond.code yJ2_putCharsAt_cd4e5 cJ2_putCharsAt_cd4e5 7 (some .int), Cond.methodLink RJ5 32 yJ0_length_8abf5, Cond.instanceMethod yJ0_length_8abf5, Cond.selects RJ0 yJ0_length_8abf5 yJ0_length_8abf5, Cond.code yJ0_length_8abf5 cJ0_length_8abf5 1 (some .int), Cond.fieldLink RJ0 9 "java/lang/String" "value" "[B", Cond.methodLink RJ0 335 yJ0_coder_7d493, Cond.instanceMethod yJ0_coder_7d493, Cond.selects RJ0 yJ0_coder_7d493 yJ0_coder_7d493, Cond.code yJ0_coder_7d493 cJ0_coder_7d493 1 (some .byte), Cond.fieldLink RJ0 38 "java/lang/String" "COMPACT_STRINGS" "Z", Cond.fieldLink RJ0 15 "java/lang/String" "coder" "B"]
def wsL_law_r33 : List Cond := [Cond.methodLink RJ5 208 ⟨"java/lang/AbstractStringBuilder", "putStringAt", "(ILjava/lang/String;)V"⟩, Cond.sameMethod "java/lang/AbstractStringBuilder" "java/lang/AbstractStringBuilder" "putStringAt" "(ILjava/lang/String;)V", Cond.selects RJ4 ⟨"java/lang/AbstractStringBuilder", "putStringAt", "(ILjava/lang/String;)V"⟩ yJ5_putStringAt_47b60, Cond.instanceMethod yJ5_putStringAt_47b60, Cond.code yJ5_putStringAt_47b60 cJ5_putStringAt_47b60 3 none, Cond.methodLink RJ5 397 ⟨"java/lang/AbstractStringBuilder", "inflateIfNeededFor", "(Ljava/lang/String;)V"⟩, Cond.sameMethod "java/lang/AbstractStringBuilder" "java/lang/AbstractStringBuilder" "inflateIfNeededFor" "(Ljava/lang/String;)V", Cond.selects RJ4 ⟨"java/lang/AbstractStringBuilder", "inflateIfNeededFor", "(Ljava/lang/String;)V"⟩ yJ5_inflateIfNeededFor_a7421, Cond.instanceMethod yJ5_inflateIfNeededFor_a7421, Cond.code yJ5_inflateIfNeededFor_a7421 cJ5_inflateIfNeededFor_a7421 2 none, Cond.methodLink RJ5 40 yJ0_coder_7d493, Cond.methodLink RJ5 399 yJ0_getBytes_840e7, Cond.instanceMethod yJ0_getBytes_840e7, Cond.selects RJ0 yJ0_getBytes_840e7 yJ0_getBytes_840e7, Cond.code yJ0_getBytes_840e7 cJ0_getBytes_840e7 4 none, Cond.methodLink RJ0 212 arraycopyName, Cond.methodLink RJ0 106 yJ1_inflate_0e8fd, Cond.methodLink RX6 129 yJ4_length_8abf5, Cond.instanceMethod yJ4_length_8abf5, Cond.selects RJ4 yJ4_length_8abf5 yJ4_length_8abf5, Cond.code yJ4_length_8abf5 cJ4_length_8abf5 1 (some .int), Cond.methodLink RJ4 343 yJ5_length_8abf5, Cond.sameMethod "java/lang/AbstractStringBuilder" "java/lang/AbstractStringBuilder" "length" "()I", Cond.instanceMethod yJ5_length_8abf5]
def wsL_law_r34 : List Cond := [Cond.code yJ5_length_8abf5 cJ5_length_8abf5 1 (some .int), Cond.methodLink RL 75 yX7_entry, Cond.instanceMethod yX7_entry, Cond.selects RX7 yX7_entry yX7_entry, Cond.code yX7_entry cX7_entry 3 (some .int), Cond.methodLink RX7 165 yX7_isEntry, Cond.instanceMethod yX7_isEntry, Cond.selects RX7 yX7_isEntry yX7_isEntry, Cond.code yX7_isEntry cX7_isEntry 2 (some .boolean), Cond.methodLink RX7 168 yX7_lineLength, Cond.instanceMethod yX7_lineLength, Cond.selects RX7 yX7_lineLength yX7_lineLength, Cond.code yX7_lineLength cX7_lineLength 2 (some .int), Cond.methodLink RX7 54 yX7_entryPart, Cond.instanceMethod yX7_entryPart, Cond.selects RX7 yX7_entryPart yX7_entryPart, Cond.code yX7_entryPart cX7_entryPart 3 (some .int), Cond.methodLink RX7 58 yX7_digits, Cond.static yX7_digits, Cond.code yX7_digits cX7_digits 3 (some .int), Cond.methodLink RX7 62 yX7_letters, Cond.static yX7_letters, Cond.code yX7_letters cX7_letters 4 (some .int), Cond.methodLink RX7 50 yX7_word]
def wsL_law_r35 : List Cond := [Cond.static yX7_word, Cond.code yX7_word cX7_word 1 (some .long), Cond.constantLong RX7 38 (126918051980642), Cond.constantLong RX7 40 (126879565963632), Cond.constantLong RX7 42 (1935961701), Cond.constantLong RX7 44 (7234297646522852722), Cond.constantLong RX7 46 (495957668979), Cond.constantLong RX7 48 (2003790963), Cond.methodLink RL 76 yX6_lineAt, Cond.instanceMethod yX6_lineAt, Cond.selects RX6 yX6_lineAt yX6_lineAt, Cond.code yX6_lineAt cX6_lineAt 3 (some .int), Cond.methodLink RX6 132 yJ4_charAt_5068e, Cond.instanceMethod yJ4_charAt_5068e, Cond.selects RJ4 yJ4_charAt_5068e yJ4_charAt_5068e, Cond.code yJ4_charAt_5068e cJ4_charAt_5068e 2 (some .char), Cond.methodLink RJ4 329 yJ5_charAt_5068e, Cond.sameMethod "java/lang/AbstractStringBuilder" "java/lang/AbstractStringBuilder" "charAt" "(I)C", Cond.instanceMethod yJ5_charAt_5068e, Cond.code yJ5_charAt_5068e cJ5_charAt_5068e 5 (some .char), Cond.methodLink RJ5 138 Lib.Math.min.name, Cond.methodLink RJ5 144 yJ0_checkIndex_df160, Cond.methodLink RJ5 148 yJ2_getChar_3b067, Cond.static yJ2_getChar_3b067]
def wsL_law_r36 : List Cond := [Cond.code yJ2_getChar_3b067 cJ2_getChar_3b067 2 (some .char), Cond.methodLink RL 79 yX7_lineAt, Cond.instanceMethod yX7_lineAt, Cond.selects RX7 yX7_lineAt yX7_lineAt, Cond.code yX7_lineAt cX7_lineAt 3 (some .int), Cond.methodLink RX7 171 yX7_lineCharacter, Cond.instanceMethod yX7_lineCharacter, Cond.selects RX7 yX7_lineCharacter yX7_lineCharacter, Cond.code yX7_lineCharacter cX7_lineCharacter 7 (some .int), Cond.constantLong RX7 65 (255), Cond.methodLink RL 80 yX6_overdue, Cond.instanceMethod yX6_overdue, Cond.selects RX6 yX6_overdue yX6_overdue, Cond.code yX6_overdue cX6_overdue 1 (some .int), Cond.methodLink RX6 136 yX1_overdueSpans, Cond.instanceMethod yX1_overdueSpans, Cond.selects RX1 yX1_overdueSpans yX1_overdueSpans, Cond.code yX1_overdueSpans cX1_overdueSpans 3 (some .int), Cond.methodLink RL 83 yX7_overdue, Cond.instanceMethod yX7_overdue, Cond.selects RX7 yX7_overdue yX7_overdue, Cond.code yX7_overdue cX7_overdue 1 (some .int), Cond.methodLink RX7 174 yX7_overdueMany, Cond.instanceMethod yX7_overdueMany]
def wsL_law_r37 : List Cond := [Cond.selects RX7 yX7_overdueMany yX7_overdueMany, Cond.code yX7_overdueMany cX7_overdueMany 3 (some .int), Cond.methodLink RL 84 yX6_nextCheck, Cond.instanceMethod yX6_nextCheck, Cond.selects RX6 yX6_nextCheck yX6_nextCheck, Cond.code yX6_nextCheck cX6_nextCheck 1 (some .int), Cond.methodLink RX6 139 yX1_chooseSpan, Cond.methodLink RL 87 yX7_nextCheck, Cond.instanceMethod yX7_nextCheck, Cond.selects RX7 yX7_nextCheck yX7_nextCheck, Cond.code yX7_nextCheck cX7_nextCheck 1 (some .int), Cond.methodLink RL 88 yX6_checkedIn, Cond.instanceMethod yX6_checkedIn, Cond.selects RX6 yX6_checkedIn yX6_checkedIn, Cond.code yX6_checkedIn cX6_checkedIn 3 (some .int), Cond.methodLink RX6 142 yX1_copyFrom, Cond.methodLink RX6 145 yX1_passQuietTick, Cond.methodLink RL 91 yX7_checkedIn, Cond.instanceMethod yX7_checkedIn, Cond.selects RX7 yX7_checkedIn yX7_checkedIn, Cond.code yX7_checkedIn cX7_checkedIn 4 (some .int), Cond.methodLink RL 92 yX6_ifQuiet, Cond.instanceMethod yX6_ifQuiet, Cond.selects RX6 yX6_ifQuiet yX6_ifQuiet]
def wsL_law_r38 : List Cond := [Cond.code yX6_ifQuiet cX6_ifQuiet 2 (some .int), Cond.methodLink RX6 151 yX6_overdueAfter, Cond.instanceMethod yX6_overdueAfter, Cond.selects RX6 yX6_overdueAfter yX6_overdueAfter, Cond.code yX6_overdueAfter cX6_overdueAfter 4 (some .int), Cond.methodLink RL 95 yX7_ifQuiet, Cond.instanceMethod yX7_ifQuiet, Cond.selects RX7 yX7_ifQuiet yX7_ifQuiet, Cond.code yX7_ifQuiet cX7_ifQuiet 2 (some .int), Cond.methodLink RX7 177 yX7_overdueIn, Cond.instanceMethod yX7_overdueIn, Cond.selects RX7 yX7_overdueIn yX7_overdueIn, Cond.code yX7_overdueIn cX7_overdueIn 4 (some .int), Cond.methodLink RL 96 yX6_bestWay, Cond.instanceMethod yX6_bestWay, Cond.selects RX6 yX6_bestWay yX6_bestWay, Cond.code yX6_bestWay cX6_bestWay 6 (some .int), Cond.methodLink RL 99 yX7_bestWay, Cond.instanceMethod yX7_bestWay, Cond.selects RX7 yX7_bestWay yX7_bestWay, Cond.code yX7_bestWay cX7_bestWay 6 (some .int), Cond.methodLink RL 100 yX6_type, Cond.instanceMethod yX6_type, Cond.selects RX6 yX6_type yX6_type]
def wsL_law_r39 : List Cond := [Cond.code yX6_type cX6_type 2 (some .int), Cond.methodLink RX6 154 yX4_append, Cond.instanceMethod yX4_append, Cond.selects RX4 yX4_append yX4_append, Cond.code yX4_append cX4_append 2 (some .int), Cond.methodLink RL 103 yX7_type, Cond.instanceMethod yX7_type, Cond.selects RX7 yX7_type yX7_type, Cond.code yX7_type cX7_type 2 (some .int), Cond.fieldLink RX7 180 "QuietChecksModel" "textLength" "I", Cond.methodLink RL 104 yX6_clearText, Cond.instanceMethod yX6_clearText, Cond.selects RX6 yX6_clearText yX6_clearText, Cond.code yX6_clearText cX6_clearText 1 (some .int), Cond.methodLink RX6 157 yX4_clear, Cond.instanceMethod yX4_clear, Cond.selects RX4 yX4_clear yX4_clear, Cond.code yX4_clear cX4_clear 2 (some .int), Cond.methodLink RL 107 yX7_clearText, Cond.instanceMethod yX7_clearText, Cond.selects RX7 yX7_clearText yX7_clearText, Cond.code yX7_clearText cX7_clearText 2 (some .int), Cond.methodLink RL 108 yX6_syntaxError, Cond.instanceMethod yX6_syntaxError]
def wsL_law_r40 : List Cond := [Cond.selects RX6 yX6_syntaxError yX6_syntaxError, Cond.code yX6_syntaxError cX6_syntaxError 1 (some .int), Cond.methodLink RX6 160 yX4_findError, Cond.instanceMethod yX4_findError, Cond.selects RX4 yX4_findError yX4_findError, Cond.code yX4_findError cX4_findError 1 (some .int), Cond.methodLink RX4 38 yX4_takeCommand, Cond.instanceMethod yX4_takeCommand, Cond.selects RX4 yX4_takeCommand yX4_takeCommand, Cond.code yX4_takeCommand cX4_takeCommand 2 (some .boolean), Cond.methodLink RX4 46 yX4_sign, Cond.instanceMethod yX4_sign, Cond.selects RX4 yX4_sign yX4_sign, Cond.code yX4_sign cX4_sign 1 (some .char), Cond.methodLink RX4 52 yX4_takeWord, Cond.instanceMethod yX4_takeWord, Cond.selects RX4 yX4_takeWord yX4_takeWord, Cond.code yX4_takeWord cX4_takeWord 3 (some .boolean), Cond.methodLink RX4 85 yJ0_length_8abf5, Cond.methodLink RX4 90 yJ0_charAt_5068e, Cond.instanceMethod yJ0_charAt_5068e, Cond.selects RJ0 yJ0_charAt_5068e yJ0_charAt_5068e, Cond.code yJ0_charAt_5068e cJ0_charAt_5068e 2 (some .char), Cond.methodLink RJ0 492 yJ0_isLatin1_aae02]
def wsL_law_r41 : List Cond := [Cond.instanceMethod yJ0_isLatin1_aae02, Cond.selects RJ0 yJ0_isLatin1_aae02 yJ0_isLatin1_aae02, Cond.code yJ0_isLatin1_aae02 cJ0_isLatin1_aae02 1 (some .boolean), Cond.methodLink RJ0 495 yJ1_charAt_3b067, Cond.static yJ1_charAt_3b067, Cond.code yJ1_charAt_3b067 cJ1_charAt_3b067 2 (some .char), Cond.methodLink RJ1 9 yJ0_checkIndex_df160, Cond.methodLink RJ0 498 yJ2_charAt_3b067, Cond.static yJ2_charAt_3b067, Cond.code yJ2_charAt_3b067 cJ2_charAt_3b067 2 (some .char), Cond.methodLink RJ2 71 yJ2_getChar_3b067, Cond.methodLink RX4 42 yX4_takeSign, Cond.instanceMethod yX4_takeSign, Cond.selects RX4 yX4_takeSign yX4_takeSign, Cond.code yX4_takeSign cX4_takeSign 2 (some .boolean), Cond.methodLink RX4 56 yX4_takeSpan, Cond.instanceMethod yX4_takeSpan, Cond.selects RX4 yX4_takeSpan yX4_takeSpan, Cond.code yX4_takeSpan cX4_takeSpan 1 (some .boolean), Cond.methodLink RX4 76 yX4_takeDigit, Cond.instanceMethod yX4_takeDigit, Cond.selects RX4 yX4_takeDigit yX4_takeDigit, Cond.code yX4_takeDigit cX4_takeDigit 4 (some .boolean), Cond.methodLink RX4 60 yX4_note]
def wsL_law_r42 : List Cond := [Cond.instanceMethod yX4_note, Cond.selects RX4 yX4_note yX4_note, Cond.code yX4_note cX4_note 3 (some .boolean), Cond.methodLink RX4 64 yX4_takeNumber, Cond.instanceMethod yX4_takeNumber, Cond.selects RX4 yX4_takeNumber yX4_takeNumber, Cond.code yX4_takeNumber cX4_takeNumber 3 (some .boolean), Cond.methodLink RX4 67 yX4_noteSecond, Cond.instanceMethod yX4_noteSecond, Cond.selects RX4 yX4_noteSecond yX4_noteSecond, Cond.code yX4_noteSecond cX4_noteSecond 2 (some .boolean), Cond.methodLink RX4 82 yX4_takeWay, Cond.instanceMethod yX4_takeWay, Cond.selects RX4 yX4_takeWay yX4_takeWay, Cond.code yX4_takeWay cX4_takeWay 1 (some .boolean), Cond.methodLink RL 111 yX7_syntaxError, Cond.instanceMethod yX7_syntaxError, Cond.selects RX7 yX7_syntaxError yX7_syntaxError, Cond.code yX7_syntaxError cX7_syntaxError 1 (some .int), Cond.methodLink RX7 240 yX7_findError, Cond.instanceMethod yX7_findError, Cond.selects RX7 yX7_findError yX7_findError, Cond.code yX7_findError cX7_findError 1 (some .int), Cond.fieldLink RX7 183 "QuietChecksModel" "at" "I"]
def wsL_law_r43 : List Cond := [Cond.methodLink RX7 237 yX7_readsCommand, Cond.instanceMethod yX7_readsCommand, Cond.selects RX7 yX7_readsCommand yX7_readsCommand, Cond.code yX7_readsCommand cX7_readsCommand 2 (some .boolean), Cond.fieldLink RX7 214 "QuietChecksModel" "command" "I", Cond.constantLong RX7 217 (139123058034), Cond.fieldLink RX7 192 "QuietChecksModel" "number" "I", Cond.fieldLink RX7 201 "QuietChecksModel" "two" "I", Cond.constantLong RX7 226 (35684289705329), Cond.constantLong RX7 228 (543912801), Cond.constantLong RX7 230 (139392413811), Cond.constantLong RX7 232 (544825719), Cond.methodLink RX7 186 yX7_character, Cond.instanceMethod yX7_character, Cond.selects RX7 yX7_character yX7_character, Cond.code yX7_character cX7_character 2 (some .int), Cond.methodLink RX7 210 yX7_readsWord, Cond.instanceMethod yX7_readsWord, Cond.selects RX7 yX7_readsWord yX7_readsWord, Cond.code yX7_readsWord cX7_readsWord 6 (some .boolean), Cond.methodLink RX7 189 yX7_isNext, Cond.instanceMethod yX7_isNext, Cond.selects RX7 yX7_isNext yX7_isNext, Cond.code yX7_isNext cX7_isNext 3 (some .boolean)]
def wsL_law_r44 : List Cond := [Cond.methodLink RX7 219 yX7_readsSpan, Cond.instanceMethod yX7_readsSpan, Cond.selects RX7 yX7_readsSpan yX7_readsSpan, Cond.code yX7_readsSpan cX7_readsSpan 2 (some .boolean), Cond.fieldLink RX7 198 "QuietChecksModel" "one" "I", Cond.methodLink RX7 195 yX7_readsDigit, Cond.instanceMethod yX7_readsDigit, Cond.selects RX7 yX7_readsDigit yX7_readsDigit, Cond.code yX7_readsDigit cX7_readsDigit 4 (some .boolean), Cond.methodLink RX7 223 yX7_readsNumber, Cond.instanceMethod yX7_readsNumber, Cond.selects RX7 yX7_readsNumber yX7_readsNumber, Cond.code yX7_readsNumber cX7_readsNumber 2 (some .boolean), Cond.methodLink RX7 234 yX7_readsWay, Cond.instanceMethod yX7_readsWay, Cond.selects RX7 yX7_readsWay yX7_readsWay, Cond.code yX7_readsWay cX7_readsWay 2 (some .boolean), Cond.constantLong RX7 204 (128038971141231), Cond.constantLong RX7 206 (500153085815), Cond.constantLong RX7 208 (7827314), Cond.methodLink RL 112 yX6_carryOut, Cond.instanceMethod yX6_carryOut, Cond.selects RX6 yX6_carryOut yX6_carryOut, Cond.code yX6_carryOut cX6_carryOut 3 (some .int)]
def wsL_law_r45 : List Cond := [Cond.methodLink RX6 166 yX6_doCommand, Cond.instanceMethod yX6_doCommand, Cond.selects RX6 yX6_doCommand yX6_doCommand, Cond.code yX6_doCommand cX6_doCommand 4 (some .int), Cond.methodLink RL 115 yX7_carryOut, Cond.instanceMethod yX7_carryOut, Cond.selects RX7 yX7_carryOut yX7_carryOut, Cond.code yX7_carryOut cX7_carryOut 3 (some .int), Cond.methodLink RX7 243 yX7_whyNotDone, Cond.instanceMethod yX7_whyNotDone, Cond.selects RX7 yX7_whyNotDone yX7_whyNotDone, Cond.code yX7_whyNotDone cX7_whyNotDone 1 (some .int), Cond.methodLink RX7 246 yX7_does, Cond.instanceMethod yX7_does, Cond.selects RX7 yX7_does yX7_does, Cond.code yX7_does cX7_does 1 none, Cond.methodLink RL 116 yX6_undo, Cond.instanceMethod yX6_undo, Cond.selects RX6 yX6_undo yX6_undo, Cond.code yX6_undo cX6_undo 1 (some .int), Cond.methodLink RX6 169 yX2_restore, Cond.instanceMethod yX2_restore, Cond.selects RX2 yX2_restore yX2_restore, Cond.code yX2_restore cX2_restore 3 (some .int)]
def wsL_law_r46 : List Cond := [Cond.methodLink RL 119 yX7_undo, Cond.instanceMethod yX7_undo, Cond.selects RX7 yX7_undo yX7_undo, Cond.code yX7_undo cX7_undo 1 (some .int), Cond.methodLink RL 120 yX6_digest, Cond.instanceMethod yX6_digest, Cond.selects RX6 yX6_digest yX6_digest, Cond.code yX6_digest cX6_digest 4 (some .long), Cond.constantLong RX6 173 (448), Cond.constantLong RX6 175 (31), Cond.methodLink RX6 177 yX6_count, Cond.methodLink RX6 180 yX6_setting, Cond.methodLink RX6 183 yX6_hashSpan, Cond.instanceMethod yX6_hashSpan, Cond.selects RX6 yX6_hashSpan yX6_hashSpan, Cond.code yX6_hashSpan cX6_hashSpan 8 (some .long), Cond.methodLink RX6 199 yX6_span, Cond.methodLink RX6 202 yX5_sizeOf, Cond.methodLink RX6 205 yX6_tries, Cond.methodLink RX6 187 yX6_entries, Cond.methodLink RX6 190 yX6_hashEntry, Cond.instanceMethod yX6_hashEntry, Cond.selects RX6 yX6_hashEntry yX6_hashEntry, Cond.code yX6_hashEntry cX6_hashEntry 7 (some .long)]
def wsL_law_r47 : List Cond := [Cond.methodLink RX6 193 yX6_overdue, Cond.methodLink RX6 196 yX6_nextCheck, Cond.methodLink RL 124 yX7_digest, Cond.instanceMethod yX7_digest, Cond.selects RX7 yX7_digest yX7_digest, Cond.code yX7_digest cX7_digest 5 (some .long), Cond.constantLong RX7 249 (448), Cond.constantLong RX7 251 (31)]
def wsL_law : List Cond := (wsL_law_r1 ++ (wsL_law_r2 ++ (wsL_law_r3 ++ (wsL_law_r4 ++ (wsL_law_r5 ++ (wsL_law_r6 ++ (wsL_law_r7 ++ (wsL_law_r8 ++ (wsL_law_r9 ++ (wsL_law_r10 ++ (wsL_law_r11 ++ (wsL_law_r12 ++ (wsL_law_r13 ++ (wsL_law_r14 ++ (wsL_law_r15 ++ (wsL_law_r16 ++ (wsL_law_r17 ++ (wsL_law_r18 ++ (wsL_law_r19 ++ (wsL_law_r20 ++ (wsL_law_r21 ++ (wsL_law_r22 ++ (wsL_law_r23 ++ (wsL_law_r24 ++ (wsL_law_r25 ++ (wsL_law_r26 ++ (wsL_law_r27 ++ (wsL_law_r28 ++ (wsL_law_r29 ++ (wsL_law_r30 ++ (wsL_law_r31 ++ (wsL_law_r32 ++ (wsL_law_r33 ++ (wsL_law_r34 ++ (wsL_law_r35 ++ (wsL_law_r36 ++ (wsL_law_r37 ++ (wsL_law_r38 ++ (wsL_law_r39 ++ (wsL_law_r40 ++ (wsL_law_r41 ++ (wsL_law_r42 ++ (wsL_law_r43 ++ (wsL_law_r44 ++ (wsL_law_r45 ++ (wsL_law_r46 ++ wsL_law_r47)))))))))))))))))))))))))))))))))))))))))))))) ++ wsX60 ++ wsX70 ++ wsX10 ++ wsX20 ++ wsX40 ++ wsJ40 ++ wsX50 ++ wsX00 ++ wsX30 ++ ([] : List Cond)
set_option maxRecDepth 20000 in
theorem inlX0 : ∀ w ∈ wsX00, w ∈ wsL_law := fun _ h => List.mem_append_left _ (List.mem_append_left _ (List.mem_append_right _ h))
theorem inlX1 : ∀ w ∈ wsX10, w ∈ wsL_law := fun _ h => List.mem_append_left _ (List.mem_append_left _ (List.mem_append_left _ (List.mem_append_left _ (List.mem_append_left _ (List.mem_append_left _ (List.mem_append_left _ (List.mem_append_right _ h)))))))
theorem inlX2 : ∀ w ∈ wsX20, w ∈ wsL_law := fun _ h => List.mem_append_left _ (List.mem_append_left _ (List.mem_append_left _ (List.mem_append_left _ (List.mem_append_left _ (List.mem_append_left _ (List.mem_append_right _ h))))))
theorem inlX3 : ∀ w ∈ wsX30, w ∈ wsL_law := fun _ h => List.mem_append_left _ (List.mem_append_right _ h)
theorem inlX4 : ∀ w ∈ wsX40, w ∈ wsL_law := fun _ h => List.mem_append_left _ (List.mem_append_left _ (List.mem_append_left _ (List.mem_append_left _ (List.mem_append_left _ (List.mem_append_right _ h)))))
theorem inlX5 : ∀ w ∈ wsX50, w ∈ wsL_law := fun _ h => List.mem_append_left _ (List.mem_append_left _ (List.mem_append_left _ (List.mem_append_right _ h)))
theorem inlX6 : ∀ w ∈ wsX60, w ∈ wsL_law := fun _ h => List.mem_append_left _ (List.mem_append_left _ (List.mem_append_left _ (List.mem_append_left _ (List.mem_append_left _ (List.mem_append_left _ (List.mem_append_left _ (List.mem_append_left _ (List.mem_append_left _ (List.mem_append_right _ h)))))))))
theorem inlX7 : ∀ w ∈ wsX70, w ∈ wsL_law := fun _ h => List.mem_append_left _ (List.mem_append_left _ (List.mem_append_left _ (List.mem_append_left _ (List.mem_append_left _ (List.mem_append_left _ (List.mem_append_left _ (List.mem_append_left _ (List.mem_append_right _ h))))))))
theorem inlJ4 : ∀ w ∈ wsJ40, w ∈ wsL_law := fun _ h => List.mem_append_left _ (List.mem_append_left _ (List.mem_append_left _ (List.mem_append_left _ (List.mem_append_right _ h))))
abbrev vwCl : List vw_C := [(RJ4, TJ4, 4), (RX0, TX0, 2), (RX1, TX1, 17), (RX2, TX2, 2), (RX3, TX3, 5), (RX4, TX4, 8), (RX5, TX5, 3), (RX6, TX6, 5), (RX7, TX7, 11)]
end
section
/-! OWN BASE: combinators of the mirrored functions, the contract's form, call rows -/
def zb {α β : Type} (x : Option α) (K : α → Option β) : Option β := x.bind K
theorem zb_s {α β : Type} {x : Option α} {K : α → Option β} {r : β} (h : zb x K = some r) : ∃ p, x = some p ∧ K p = some r := by
  cases x with
  | none => cases h
  | some p => exact ⟨p, rfl, h⟩
def zn {α β : Type} (x : α) (K : α → Option β) : Option β := K x
theorem zn_s {α β : Type} {x : α} {K : α → Option β} {r : β} (h : zn x K = some r) : ∃ y, y = x ∧ K y = some r := ⟨x, rfl, h⟩
def zg {β : Type} (n : Nat) (f : Nat → Int32) (i : Int32) (K : Int32 → Option β) : Option β := if i < 0 ∨ n ≤ i.toNatClampNeg then none else K (f i.toNatClampNeg)
theorem zg_s {β : Type} {n : Nat} {f : Nat → Int32} {i : Int32} {K : Int32 → Option β} {r : β} (h : zg n f i K = some r) : vp_in i n ∧ ∃ v, v = f i.toNatClampNeg ∧ K v = some r := by
  unfold zg at h
  by_cases c : i < 0 ∨ n ≤ i.toNatClampNeg
  · rw [if_pos c] at h; cases h
  · rw [if_neg c] at h; exact ⟨c, _, rfl, h⟩
def zs {β : Type} (n : Nat) (f : Nat → Int32) (i x : Int32) (K : (Nat → Int32) → Option β) : Option β := if i < 0 ∨ n ≤ i.toNatClampNeg then none else K (upd f i.toNatClampNeg x)
theorem zs_s {β : Type} {n : Nat} {f : Nat → Int32} {i x : Int32} {K : (Nat → Int32) → Option β} {r : β} (h : zs n f i x K = some r) : vp_in i n ∧ ∃ v, v = upd f i.toNatClampNeg x ∧ K v = some r := by
  unfold zs at h
  by_cases c : i < 0 ∨ n ≤ i.toNatClampNeg
  · rw [if_pos c] at h; cases h
  · rw [if_neg c] at h; exact ⟨c, _, rfl, h⟩
def zq {β : Type} (c : Prop) [Decidable c] (K : Option β) : Option β := if c then K else none
theorem zq_s {β : Type} {c : Prop} [Decidable c] {K : Option β} {r : β} (h : zq c K = some r) : c ∧ K = some r := by
  unfold zq at h
  by_cases hc : c
  · rw [if_pos hc] at h; exact ⟨hc, h⟩
  · rw [if_neg hc] at h; cases h
theorem zi_p {β : Type} {c : Prop} [Decidable c] {A B : Option β} {r : β} (h : (if c then A else B) = some r) (hc : c) : A = some r := by rw [if_pos hc] at h; exact h
theorem zi_n {β : Type} {c : Prop} [Decidable c] {A B : Option β} {r : β} (h : (if c then A else B) = some r) (hc : ¬ c) : B = some r := by rw [if_neg hc] at h; exact h
theorem zo {β : Type} {a r : β} (h : some a = some r) : r = a := (Option.some.inj h).symm
def zk {α β : Type} (f : α → Option β) (o : α ⊕ β) : Option β := match o with
  | .inl a => f a
  | .inr b => some b
def zl {α β : Type} : Nat → (α → Option (α ⊕ β)) → α → Option β
  | 0, _, _ => none
  | n + 1, B, a => zb (B a) (zk (zl n B))
theorem zl_0 {α β : Type} {B : α → Option (α ⊕ β)} {a : α} {r : β} (h : zl 0 B a = some r) : False := by cases h
theorem zl_s {α β : Type} {n : Nat} {B : α → Option (α ⊕ β)} {a : α} {r : β} (h : zl (n + 1) B a = some r) : ∃ o, B a = some o ∧ zk (zl n B) o = some r := zb_s h
theorem zk_l {α β : Type} {f : α → Option β} {a : α} {r : β} {o : α ⊕ β} (ho : some (Sum.inl a) = some o) (h : zk f o = some r) : f a = some r := by cases ho; exact h
theorem zk_r {α β : Type} {f : α → Option β} {b r : β} {o : α ⊕ β} (ho : some (Sum.inr b) = some o) (h : zk f o = some r) : r = b := by cases ho; exact (Option.some.inj h).symm
def zcmp (x y : Int64) : Int32 := lg_cmp x y
/-- class ids: int[], char[], byte[], Disk[]; static arrays: lowest, highest, first setting; DigitOnes, DigitTens; Strings and their bytes -/
abbrev zG : Type := (ClassId × ClassId × ClassId × ClassId) × (Nat × Nat × Nat) × (Nat × Nat) × (Nat → Nat) × (Nat → Nat)
abbrev zTY (G : zG) : List (ClassId × FieldType) := [(G.1.1, .int), (G.1.2.1, .char), (G.1.2.2.1, .byte), (G.1.2.2.2, .object "QuietChecks$Disk")]
def zW (y : MethodName) (cc : ByteArray) (n : Nat) (ret : Option FieldType) : List Cond := .code y cc n ret :: wsL_law
theorem zW_good : ∀ w ∈ wsL_law, (w.onTables && w.keeps) = true ∨ ∃ ty, w = .arrayClass ty := fun w h => good_of_word (List.all_eq_true.mp (by decide +kernel : wsL_law.all goodWord = true) w h)
def zNest : List Cond := [
  .methodLinkNest "QuietChecks$Disk" 20 ⟨"QuietChecks$Spots", "<init>", "()V"⟩ "QuietChecks", .methodLinkNest "QuietChecks$Disk" 27 ⟨"QuietChecks$Asked", "<init>", "()V"⟩ "QuietChecks",
  .methodLinkNest "QuietChecks$Disk" 34 ⟨"QuietChecks$Log", "<init>", "()V"⟩ "QuietChecks", .methodLinkNest "QuietChecks" 28 ⟨"QuietChecks$Plan", "<init>", "()V"⟩ "QuietChecks",
  .methodLinkNest "QuietChecks$Disk" 95 ⟨"QuietChecks", "isSetting", "(I)Z"⟩ "QuietChecks", .methodLinkNest "QuietChecks$Disk" 105 ⟨"QuietChecks", "isSpan", "(I)Z"⟩ "QuietChecks",
  .fieldLinkNest "QuietChecks$Disk" 182 "QuietChecks$Spots" "spans" "[I" "QuietChecks", .fieldLinkNest "QuietChecks$Disk" 183 "QuietChecks$Spots" "tries" "[I" "QuietChecks",
  .fieldLinkNest "QuietChecks$Disk" 181 "QuietChecks$Spots" "size" "I" "QuietChecks", .fieldLinkNest "QuietChecks$Disk" 157 "QuietChecks$Asked" "spans" "[I" "QuietChecks",
  .fieldLinkNest "QuietChecks$Disk" 121 "QuietChecks$Asked" "size" "I" "QuietChecks", .fieldLinkNest "QuietChecks" 107 "QuietChecks$Log" "size" "I" "QuietChecks",
  .fieldLinkNest "QuietChecks$Disk" 76 "QuietChecks" "FIRST_SETTING" "[I" "QuietChecks", .fieldLinkNest "QuietChecks" 84 "QuietChecks$Disk" "settings" "[I" "QuietChecks",
  .fieldLinkNest "QuietChecks" 94 "QuietChecks$Disk" "spots" "LQuietChecks$Spots;" "QuietChecks", .fieldLinkNest "QuietChecks" 103 "QuietChecks$Disk" "log" "LQuietChecks$Log;" "QuietChecks",
  .fieldLinkNest "QuietChecks" 148 "QuietChecks$Disk" "way" "I" "QuietChecks", .fieldLinkNest "QuietChecks" 230 "QuietChecks$Plan" "kinds" "[I" "QuietChecks",
  .fieldLinkNest "QuietChecks" 224 "QuietChecks$Plan" "firsts" "[I" "QuietChecks", .fieldLinkNest "QuietChecks" 227 "QuietChecks$Plan" "seconds" "[I" "QuietChecks",
  .fieldLinkNest "QuietChecks" 163 "QuietChecks$Plan" "commands" "I" "QuietChecks", .fieldLinkNest "QuietChecks$Disk" 99 "QuietChecks" "LOWEST_SETTING" "[I" "QuietChecks",
  .fieldLinkNest "QuietChecks$Disk" 102 "QuietChecks" "HIGHEST_SETTING" "[I" "QuietChecks"]
def zIsNest : Cond → Bool
  | .fieldLinkNest .. => true
  | .methodLinkNest .. => true
  | _ => false
theorem zNest_warm {w : Cond} (hn : zIsNest w = true) {s U : State} (hW : s.WarmedH U.vm) (h : va_Nw w s) : va_Nw w U := by
  cases w <;> first | exact va_Nw.warmF hW h | exact va_Nw.warmM hW h | cases hn
theorem zNest_same {w : Cond} (hn : zIsNest w = true) {u U : State} (hv : u.vm = U.vm) (h : va_Nw w u) : va_Nw w U := by
  cases w <;> first | exact va_Nw.same rfl hv h | cases hn
/-- the Strings of the class: owner, entry, text, bytes -/
def zStr : List (String × Nat × String × List Int32) := [
  ("QuietChecks", 233, "begins", [98, 101, 103, 105, 110, 115]), ("QuietChecks", 235, "pauses", [112, 97, 117, 115, 101, 115]), ("QuietChecks", 237, "ends", [101, 110, 100, 115]),
  ("QuietChecks", 239, "replaced", [114, 101, 112, 108, 97, 99, 101, 100]), ("QuietChecks", 241, "stays", [115, 116, 97, 121, 115]), ("QuietChecks", 243, "slow", [115, 108, 111, 119]),
  ("QuietChecks$Plan", 50, "read ", [114, 101, 97, 100, 32]), ("QuietChecks$Plan", 70, "quiet ", [113, 117, 105, 101, 116, 32]), ("QuietChecks$Plan", 72, "ask ", [97, 115, 107, 32]),
  ("QuietChecks$Plan", 74, "spot ", [115, 112, 111, 116, 32]), ("QuietChecks$Plan", 80, "way ", [119, 97, 121, 32]), ("QuietChecks$Plan", 94, "oldest", [111, 108, 100, 101, 115, 116]),
  ("QuietChecks$Plan", 96, "worst", [119, 111, 114, 115, 116]), ("QuietChecks$Plan", 98, "row", [114, 111, 119])]
def zStrB (k : Nat) : List Int32 := ((zStr[k]?).map (fun q => q.2.2.2)).getD []
def zLow (k : Nat) : Value := .int (([0, 1, 1, 2, 50] : List Int32).getD k 0)
def zHigh (k : Nat) : Value := .int (([50, 40, 9, 9, 2000] : List Int32).getD k 0)
def zFirst (k : Nat) : Value := .int (([5, 10, 3, 5, 400] : List Int32).getD k 0)
def zOnes (k : Nat) : Value := .int (nI (48 + k % 10))
def zTens (k : Nat) : Value := .int (nI (48 + k / 10))
/-- what holds of the machine's own tables, statics and String constants, apart from the cells in A -/
def zF (G : zG) (A : Nat → Prop) (U : State) (H : Heap) : Prop :=
  (∀ w ∈ zNest, va_Nw w U) ∧
  (va_Z "QuietChecks" "LOWEST_SETTING" "[I" (.ref G.2.1.1) A U H ∧ va_T .int G.2.1.1 5 zLow A U H) ∧
  (va_Z "QuietChecks" "HIGHEST_SETTING" "[I" (.ref G.2.1.2.1) A U H ∧ va_T .int G.2.1.2.1 5 zHigh A U H) ∧
  (va_Z "QuietChecks" "FIRST_SETTING" "[I" (.ref G.2.1.2.2) A U H ∧ va_T .int G.2.1.2.2 5 zFirst A U H) ∧
  (va_Z "java/lang/Integer" "DigitOnes" "[B" (.ref G.2.2.1.1) A U H ∧ va_T .byte G.2.2.1.1 100 zOnes A U H) ∧
  (va_Z "java/lang/Integer" "DigitTens" "[B" (.ref G.2.2.1.2) A U H ∧ va_T .byte G.2.2.1.2 100 zTens A U H) ∧
  va_Z "java/lang/String" "COMPACT_STRINGS" "Z" (.int 1) A U H ∧
  va_Zq "jdk/internal/util/Preconditions" "SIOOBE_FORMATTER" "Ljava/util/function/BiFunction;" A U H ∧
  vk_S 14 (zStr.map (fun q => q.2.2.2.length)) (zStr.map (fun q => q.2.2.2)) G.2.2.2.1 G.2.2.2.2 A U H ∧
  (∀ (k : Nat) (q : String × Nat × String × List Int32), zStr[k]? = some q → vk_R q.1 q.2.1 q.2.2.1 (G.2.2.2.1 k) U)
theorem va_Zq.moved' {C n d : String} {A : Nat → Prop} {u U : State} {H : Heap} (hvm : u.vm.Alike U.vm) (h : va_Zq C n d A u H) : va_Zq C n d A U H := h.elim (fun h => Or.inl (h.moved hvm)) (fun ⟨t, h⟩ => Or.inr ⟨t, h.moved hvm⟩)
theorem va_Zq.kept' {C n d : String} {A : Nat → Prop} {U : State} {H H1 : Heap} (h : va_Zq C n d A U H) (hq : ∀ a : Nat, a < H.size → ¬ A a → H1[a]? = H[a]?) : va_Zq C n d A U H1 := h.elim (fun h => Or.inl (h.kept hq)) (fun ⟨t, h⟩ => Or.inr ⟨t, h.kept hq⟩)
theorem va_Zq.narrow' {C n d : String} {A B : Nat → Prop} {U : State} {H : Heap} (h : va_Zq C n d A U H) (hAB : ∀ q, B q → A q) : va_Zq C n d B U H := h.elim (fun h => Or.inl (h.narrow hAB)) (fun ⟨t, h⟩ => Or.inr ⟨t, h.narrow hAB⟩)
theorem zF_kept {G : zG} {A : Nat → Prop} {U : State} {H H1 : Heap} (h : zF G A U H) (hq : ∀ a : Nat, a < H.size → ¬ A a → H1[a]? = H[a]?) : zF G A U H1 := by
  obtain ⟨h1, ⟨a1, a2⟩, ⟨b1, b2⟩, ⟨c1, c2⟩, ⟨d1, d2⟩, ⟨e1, e2⟩, h7, h8, h9, h10⟩ := h
  exact ⟨h1, ⟨a1.kept hq, a2.kept hq⟩, ⟨b1.kept hq, b2.kept hq⟩, ⟨c1.kept hq, c2.kept hq⟩, ⟨d1.kept hq, d2.kept hq⟩, ⟨e1.kept hq, e2.kept hq⟩, h7.kept hq, h8.kept' hq, h9.kept hq, h10⟩
theorem zF_narrow {G : zG} {A B : Nat → Prop} {U : State} {H : Heap} (h : zF G A U H) (hq : ∀ q, B q → A q) : zF G B U H := by
  obtain ⟨h1, ⟨a1, a2⟩, ⟨b1, b2⟩, ⟨c1, c2⟩, ⟨d1, d2⟩, ⟨e1, e2⟩, h7, h8, h9, h10⟩ := h
  exact ⟨h1, ⟨a1.narrow hq, a2.narrow hq⟩, ⟨b1.narrow hq, b2.narrow hq⟩, ⟨c1.narrow hq, c2.narrow hq⟩, ⟨d1.narrow hq, d2.narrow hq⟩, ⟨e1.narrow hq, e2.narrow hq⟩, h7.narrow hq, h8.narrow' hq, h9.narrow hq, h10⟩
theorem zNest_all : ∀ w ∈ zNest, zIsNest w = true := by decide +kernel
theorem zF_warm {G : zG} {A : Nat → Prop} {s U : State} {H : Heap} (hW : s.WarmedH U.vm) (h : zF G A s H) : zF G A U H := by
  obtain ⟨h1, ⟨a1, a2⟩, ⟨b1, b2⟩, ⟨c1, c2⟩, ⟨d1, d2⟩, ⟨e1, e2⟩, h7, h8, h9, h10⟩ := h
  have hq := hW.alike
  exact ⟨fun w hw => zNest_warm (zNest_all w hw) hW (h1 w hw), ⟨a1.moved hq, a2.moved hq⟩, ⟨b1.moved hq, b2.moved hq⟩, ⟨c1.moved hq, c2.moved hq⟩, ⟨d1.moved hq, d2.moved hq⟩, ⟨e1.moved hq, e2.moved hq⟩, h7.moved hq, h8.moved' hq, h9.moved hq, fun k q hk => (h10 k q hk).warm hW⟩
theorem zF_same {G : zG} {A : Nat → Prop} {u U : State} {H : Heap} (hv : U.vm = u.vm) (h : zF G A u H) : zF G A U H := by
  obtain ⟨h1, ⟨a1, a2⟩, ⟨b1, b2⟩, ⟨c1, c2⟩, ⟨d1, d2⟩, ⟨e1, e2⟩, h7, h8, h9, h10⟩ := h
  have hq : u.vm.Alike U.vm := by rw [hv]; exact Vm.Alike.refl u.vm
  exact ⟨fun w hw => zNest_same (zNest_all w hw) hv.symm (h1 w hw), ⟨a1.moved hq, a2.moved hq⟩, ⟨b1.moved hq, b2.moved hq⟩, ⟨c1.moved hq, c2.moved hq⟩, ⟨d1.moved hq, d2.moved hq⟩, ⟨e1.moved hq, e2.moved hq⟩, h7.moved hq, h8.moved' hq, h9.moved hq, fun k q hk => (h10 k q hk).same hv⟩
/-- permutations of worlds -/
theorem z_perm_get {ws ws' : va_W} (h : ws.Perm ws') {k : Nat} {q : Nat × va_E} (hk : ws'[k]? = some q) : ∃ i : Nat, ws[i]? = some q := List.getElem?_of_mem (h.mem_iff.mpr (List.mem_of_getElem? hk))
theorem zP_perm {D : va_G} {cl : List vw_C} {ws ws' : va_W} {H : Heap} (hp : ws.Perm ws') (h : va_P D cl ws H) : va_P D cl ws' H := fun k q hk => by
  obtain ⟨i, hi⟩ := z_perm_get hp hk
  exact h i q hi
theorem zD_nodup {A : Nat → Prop} {ws : va_W} : va_D A ws ↔ (ws.map Prod.fst).Nodup ∧ ∀ q ∈ ws, A q.1 := by
  constructor
  · intro h
    refine ⟨?_, fun q hq => ?_⟩
    · refine List.pairwise_iff_getElem.mpr (fun i j hi hj hij he => ?_)
      rw [List.length_map] at hi hj
      rw [List.getElem_map, List.getElem_map] at he
      have := h.1 i j _ _ (List.getElem?_eq_getElem hi) (List.getElem?_eq_getElem hj) he
      omega
    · obtain ⟨i, hi⟩ := List.getElem?_of_mem hq
      exact h.2 i q hi
  · rintro ⟨h1, h2⟩
    refine ⟨fun i j p q hi hj hpq => ?_, fun k q hk => h2 q (List.mem_of_getElem? hk)⟩
    have hi' := (List.getElem?_eq_some_iff.mp hi).1
    exact (List.getElem?_inj (by rw [List.length_map]; exact hi') h1).mp (by rw [List.getElem?_map, List.getElem?_map, hi, hj, Option.map_some, Option.map_some, hpq])
theorem zD_perm {A : Nat → Prop} {ws ws' : va_W} (hp : ws.Perm ws') (h : va_D A ws) : va_D A ws' := by
  rw [zD_nodup] at h ⊢
  exact ⟨(hp.map Prod.fst).nodup_iff.mp h.1, fun q hq => h.2 q (hp.mem_iff.mpr hq)⟩
theorem zD_left {A : Nat → Prop} {w1 w2 : va_W} (h : va_D A (w1 ++ w2)) : va_D A w1 := by
  rw [zD_nodup] at h ⊢
  rw [List.map_append] at h
  exact ⟨(List.nodup_append.mp h.1).1, fun q hq => h.2 q (List.mem_append_left _ hq)⟩
theorem zP_left {D : va_G} {cl : List vw_C} {w1 w2 : va_W} {H : Heap} (h : va_P D cl (w1 ++ w2) H) : va_P D cl w1 H := fun k q hk => h k q (by rw [List.getElem?_append_left (List.getElem?_eq_some_iff.mp hk).1]; exact hk)
theorem zP_right {D : va_G} {cl : List vw_C} {w1 w2 : va_W} {H : Heap} (h : va_P D cl (w1 ++ w2) H) : va_P D cl w2 H := zP_left (zP_perm List.perm_append_comm h)
/-- behind a call: the callee's cells, and the rest -/
theorem z_join {A0 : Nat → Prop} {D : va_G} {cl : List vw_C} {wc wr w1 : va_W} {H H1 : Heap} (hP : va_P D cl (wc ++ wr) H) (hD : va_D A0 (wc ++ wr))
    (hk : ∀ q : Nat, q < H.size → ¬ va_A wc H.size q → H1[q]? = H[q]?) (hF : ∀ q, va_A wc H.size q → A0 q) (hP1 : va_P D cl w1 H1) (hD1 : va_D (va_A wc H.size) w1) : va_P D cl (w1 ++ wr) H1 ∧ va_D A0 (w1 ++ wr) := by
  have hPr := zP_right hP
  have hN := hD
  rw [zD_nodup, List.map_append, List.nodup_append] at hN
  have apart : ∀ (k : Nat) (q : Nat × va_E), wr[k]? = some q → q.1 < H.size ∧ ¬ va_A wc H.size q.1 := by
    intro k q hq
    have hl := (hPr k q hq).lt
    refine ⟨hl, fun h => ?_⟩
    rcases h with ⟨i, e, h⟩ | h
    · exact hN.1.2.2 q.1 (List.mem_map.mpr ⟨_, List.mem_of_getElem? h, rfl⟩) q.1 (List.mem_map.mpr ⟨_, List.mem_of_getElem? hq, rfl⟩) rfl
    · omega
  refine ⟨va_P.app hP1 (fun k q hq => (hPr k q hq).kept (hk q.1 (apart k q hq).1 (apart k q hq).2)), va_D.app (hD1.weaken (fun k q _ h => hF q.1 h)) (zD_left (zD_perm List.perm_append_comm hD)) (fun i j x y hx hy hxy => ?_)⟩
  exact (apart j y hy).2 (by rw [← hxy]; exact hD1.2 i x hx)
theorem z_free {A0 : Nat → Prop} {wc wr : va_W} {H0 H : Heap} {locs : List Loc} (hD : va_D A0 (wc ++ wr)) (hS : va_S A0 H0 H locs) (hA : ∀ q, H0.size ≤ q → A0 q) : ∀ q, va_A wc H.size q → A0 q := by
  intro q h
  rcases h with ⟨k, e, h⟩ | h
  · exact (zD_left hD).2 k _ h
  · exact hA q (Nat.le_trans hS.1 h)
def zPre (D : va_G) (G : zG) (sz : Nat) (ws : va_W) (U : State) : Prop := U.heap.size = sz ∧ va_P D vwCl ws U.heap ∧ va_K D vwCl (zTY G) U ∧ va_D (fun _ => True) ws ∧ zF G (va_A ws sz) U U.heap
def zPost (D : va_G) (G : zG) (sz : Nat) (ws ws' : va_W) (t : State) : Prop := va_P D vwCl ws' t.heap ∧ va_K D vwCl (zTY G) t ∧ va_D (va_A ws sz) ws'
theorem zPre_blind {D : va_G} {G : zG} {sz : Nat} {ws : va_W} {av : List Value} : FrameBlind (va_Pc av (zPre D G sz ws)) := fun a U g mk q => by
  obtain ⟨q0, q1, q2, q3, q4, q5⟩ := q
  exact ⟨q0, q1, q2, va_K.moved (u := U) (U := U.calling g mk a) (Vm.Alike.refl U.vm) q3, q4, zF_same (u := U) rfl q5⟩
def zQi (D : va_G) (G : zG) (ws ws' : va_W) (r : Int32) (sz : Nat) : Array Value → State → Outcome → State → Prop := va_Qi (fun (x : Int32) (_ : Unit) => x = r) (fun _ t => zPost D G sz ws ws' t) (va_A ws sz)
def zQl (D : va_G) (G : zG) (ws ws' : va_W) (r : Int64) (sz : Nat) : Array Value → State → Outcome → State → Prop := va_Ql (fun (x : Int64) (_ : Unit) => x = r) (fun _ t => zPost D G sz ws ws' t) (va_A ws sz)
def zQv (D : va_G) (G : zG) (ws ws' : va_W) (sz : Nat) : Array Value → State → Outcome → State → Prop := va_Qv (fun (_ : Unit) => True) (fun _ t => zPost D G sz ws ws' t) (va_A ws sz)
abbrev zRm (f L : Nat) : Room := { frames := f, cells := 0, slots := 0, locals := L }
/-- a contract: from the cells ws to the cells ws', with the answer r -/
def zMi (l : Launch) (y : MethodName) (cc : ByteArray) (n : Nat) (ret : Option FieldType) (f L : Nat) (D : va_G) (G : zG) (ws ws' : va_W) (av : List Value) (r : Int32) : Prop := ∀ sz, Met l y (zW y cc n ret) (zRm f L) (va_Pc av (zPre D G sz ws)) (zQi D G ws ws' r sz) 0 0 (va_A ws sz)
def zMl (l : Launch) (y : MethodName) (cc : ByteArray) (n : Nat) (ret : Option FieldType) (f L : Nat) (D : va_G) (G : zG) (ws ws' : va_W) (av : List Value) (r : Int64) : Prop := ∀ sz, Met l y (zW y cc n ret) (zRm f L) (va_Pc av (zPre D G sz ws)) (zQl D G ws ws' r sz) 0 0 (va_A ws sz)
def zMv (l : Launch) (y : MethodName) (cc : ByteArray) (n : Nat) (ret : Option FieldType) (f L : Nat) (D : va_G) (G : zG) (ws ws' : va_W) (av : List Value) : Prop := ∀ sz, Met l y (zW y cc n ret) (zRm f L) (va_Pc av (zPre D G sz ws)) (zQv D G ws ws' sz) 0 0 (va_A ws sz)
end
section
/-! CALLS, STARTS, ENDS over the contract's form -/
def zCx (p : Program) (s : State) (m : MethodId) (args : Array Value) (meth : Method) (c : Code) (cc : ByteArray) (nL : Nat) (ret : Option FieldType) (own : String) (D : va_G) (G : zG) (A : Nat → Prop) : Prop :=
  p.tables.exec = Jvm.exec ∧ c.code = cc ∧ c.maxLocals = nL ∧ s.vm.findClass own = some m.cls ∧ (∀ w ∈ wsL_law, w.before args s = true) ∧ va_K D vwCl (zTY G) s ∧ meth.locks = false ∧ zF G A s s.heap ∧ meth.sig.returnType = ret ∧ (∀ q, s.heap.size ≤ q → A q)
theorem z_start {l : Launch} {y : MethodName} {cc : ByteArray} {n : Nat} {ret : Option FieldType} {f L : Nat} {D : va_G} {G : zG} {ws : va_W} {av : List Value} {Qc : Nat → Array Value → State → Outcome → State → Prop} (hy : plainName y.cls = true) (hn : (lg_sl av).length ≤ n)
    (body : ∀ (p : Program) (e : Env) (s : State) (m : MethodId) (below : List Frame) (meth : Method) (c : Code) (H : Heap) (ls : Array Slot), zCx p s m av.toArray meth c cc n ret y.cls D G (va_A ws s.heap.size) → va_P D vwCl ws H → va_D (va_A ws s.heap.size) ws → va_S (va_A ws s.heap.size) s.heap H [] → lv_has ls n (lv_args 0 av) → W p l e (zRm f L) s m av.toArray below meth c H [] 0 0 (MQ below (Qc s.heap.size) av.toArray s 0 0 (va_A ws s.heap.size)) (F0 m 0 ls [])) :
    ∀ sz, Met l y (zW y cc n ret) (zRm f L) (va_Pc av (zPre D G sz ws)) (Qc sz) 0 0 (va_A ws sz) := by
  intro sz
  refine Met.ofW (cc := cc) (maxL := n) (ret := ret) hy rfl ?_
  intro p e s m args below meth c s₁ B hml hv
  obtain ⟨rfl, hsz, hP, hK, hD0, hF⟩ := hv
  subst hsz
  have hts := atoms_spec (ws := zW y cc n ret) B.pre
  rw [lg_entry_eq]
  exact body p e s m below meth c s.heap _ ⟨B.exec, B.bytes, hml, findClass_of_methodNamed B.named, fun w h => hts w (List.mem_cons_of_mem _ h), hK, B.notSynchronized, hF, B.returns, fun q h => Or.inr h⟩ hP hD0.self va_S.rf (lv_entry av hn)
section ZR
variable {p : Program} {l : Launch} {e : Env} {R : Room} {s : State} {m : MethodId} {args : Array Value} {below : List Frame} {meth : Method} {c : Code} {H : Heap} {locs : List Loc} {Q : State → Prop} {cc : ByteArray} {nL : Nat} {ret : Option FieldType} {own : String} {D : va_G} {G : zG} {A : Nat → Prop} {pc : Nat} {ls : Array Slot} {ws wc wc' wr ws' : va_W}
theorem z_iret {v r : Int32} (C0 : zCx p s m args meth c cc nL (some .int) own D G (va_A ws s.heap.size)) (hP : va_P D vwCl ws' H) (hD : va_D (va_A ws s.heap.size) ws') (hS : va_S (va_A ws s.heap.size) s.heap H locs) (hv : v = r) (hdg : decode cc pc = .ok (.ireturn, 1)) :
    W p l e R s m args below meth c H locs 0 0 (MQ below (zQi D G ws ws' r s.heap.size) args s 0 0 (va_A ws s.heap.size)) (F0 m pc ls [.int v]) := by
  obtain ⟨hx, hb, hml, hown, hW, hK, hlocks, hF, hr, hA⟩ := C0
  exact W.iret (v := v) hx hb hr (fun t ht hW => ⟨⟨v, (), rfl, hv, by rw [ht]; exact hP, va_K.moved hW.alike hK, hD⟩, hS.F ht⟩) hS.2.2 hdg hlocks
theorem z_zret {v r : Int32} {ty : FieldType} (C0 : zCx p s m args meth c cc nL (some ty) own D G (va_A ws s.heap.size)) (hn : narrow ty (.int v) = .int v) (hP : va_P D vwCl ws' H) (hD : va_D (va_A ws s.heap.size) ws') (hS : va_S (va_A ws s.heap.size) s.heap H locs) (hv : v = r) (hdg : decode cc pc = .ok (.ireturn, 1)) :
    W p l e R s m args below meth c H locs 0 0 (MQ below (zQi D G ws ws' r s.heap.size) args s 0 0 (va_A ws s.heap.size)) (F0 m pc ls [.int v]) := by
  obtain ⟨hx, hb, hml, hown, hW, hK, hlocks, hF, hr, hA⟩ := C0
  exact W.zret (v := v) hx hb hr hn (fun t ht hW => ⟨⟨v, (), rfl, hv, by rw [ht]; exact hP, va_K.moved hW.alike hK, hD⟩, hS.F ht⟩) hS.2.2 hdg hlocks
theorem z_lret {v r : Int64} (C0 : zCx p s m args meth c cc nL (some .long) own D G (va_A ws s.heap.size)) (hP : va_P D vwCl ws' H) (hD : va_D (va_A ws s.heap.size) ws') (hS : va_S (va_A ws s.heap.size) s.heap H locs) (hv : v = r) (hdg : decode cc pc = .ok (.lreturn, 1)) :
    W p l e R s m args below meth c H locs 0 0 (MQ below (zQl D G ws ws' r s.heap.size) args s 0 0 (va_A ws s.heap.size)) (F0 m pc ls [.long v]) := by
  obtain ⟨hx, hb, hml, hown, hW, hK, hlocks, hF, hr, hA⟩ := C0
  exact W.lret (v := v) hx hb hr (fun t ht hW => ⟨⟨v, (), rfl, hv, by rw [ht]; exact hP, va_K.moved hW.alike hK, hD⟩, hS.F ht⟩) hS.2.2 hdg hlocks
theorem z_vret (C0 : zCx p s m args meth c cc nL none own D G (va_A ws s.heap.size)) (hP : va_P D vwCl ws' H) (hD : va_D (va_A ws s.heap.size) ws') (hS : va_S (va_A ws s.heap.size) s.heap H locs) (hdg : decode cc pc = .ok (.return_, 1)) :
    W p l e R s m args below meth c H locs 0 0 (MQ below (zQv D G ws ws' s.heap.size) args s 0 0 (va_A ws s.heap.size)) (F0 m pc ls []) := by
  obtain ⟨hx, hb, hml, hown, hW, hK, hlocks, hF, hr, hA⟩ := C0
  exact W.vret hx hb hr (fun t ht hW => ⟨⟨(), rfl, trivial, by rw [ht]; exact hP, va_K.moved hW.alike hK, hD⟩, hS.F ht⟩) hS.2.2 hdg hlocks
/-- what a call site links -/
def zLkV (own : String) (idx : Nat) (y : MethodName) (cy : ByteArray) (ny : Nat) (rety : Option FieldType) (n : Nat) : Prop :=
  (Cond.methodLink own idx y ∈ wsL_law ∧ Cond.instanceMethod y ∈ wsL_law ∧ Cond.selects y.cls y y ∈ wsL_law ∧ Cond.initialized y.cls ∈ wsL_law ∧ Cond.code y cy ny rety ∈ wsL_law) ∧ y.cls ≠ "java/lang/invoke/MethodHandle" ∧ y.cls ≠ "java/lang/invoke/VarHandle" ∧ (parseMethodDescriptor y.desc).map (fun d => d.parameters.length) = some n
def zLkS (own : String) (idx : Nat) (y : MethodName) (cy : ByteArray) (ny : Nat) (rety : Option FieldType) (n : Nat) : Prop :=
  (Cond.methodLink own idx y ∈ wsL_law ∧ Cond.static y ∈ wsL_law ∧ Cond.initialized y.cls ∈ wsL_law ∧ Cond.code y cy ny rety ∈ wsL_law) ∧ y.cls ≠ "java/lang/invoke/MethodHandle" ∧ y.cls ≠ "java/lang/invoke/VarHandle" ∧ (parseMethodDescriptor y.desc).map (fun d => d.parameters.length) = some n
def zLkN (own : String) (idx : Nat) (y : MethodName) (cy : ByteArray) (ny : Nat) (rety : Option FieldType) (n : Nat) : Prop :=
  (Cond.methodLinkNest own idx y "QuietChecks" ∈ zNest ∧ Cond.static y ∈ wsL_law ∧ Cond.initialized y.cls ∈ wsL_law ∧ Cond.code y cy ny rety ∈ wsL_law) ∧ y.cls ≠ "java/lang/invoke/MethodHandle" ∧ y.cls ≠ "java/lang/invoke/VarHandle" ∧ (parseMethodDescriptor y.desc).map (fun d => d.parameters.length) = some n
theorem zW_sub {y : MethodName} {cy : ByteArray} {ny : Nat} {rety : Option FieldType} (h : Cond.code y cy ny rety ∈ wsL_law) : GoodIn wsL_law (zW y cy ny rety) := fun w hw => by
  have hm : w ∈ wsL_law := by
    rcases List.mem_cons.mp hw with rfl | hw
    · exact h
    · exact hw
  exact ⟨hm, zW_good w hm⟩
theorem z_goodV {own : String} {idx : Nat} {y : MethodName} {cy : ByteArray} {ny : Nat} {rety : Option FieldType} {n : Nat} (k : zLkV own idx y cy ny rety n) : GoodIn wsL_law (wsV own idx y.cls y (zW y cy ny rety)) := fun w hw => by
  obtain ⟨⟨h1, h2, h3, h4, h5⟩, -⟩ := k
  have hm : w ∈ wsL_law := by
    unfold wsV at hw
    rcases List.mem_append.mp hw with hw | hw
    · simp only [List.mem_cons, List.not_mem_nil, or_false] at hw
      rcases hw with rfl | rfl | rfl | rfl
      · exact h1
      · exact h2
      · exact h3
      · exact h4
    · exact (zW_sub h5 w hw).1
  exact ⟨hm, zW_good w hm⟩
theorem z_goodS {own : String} {idx : Nat} {y : MethodName} {cy : ByteArray} {ny : Nat} {rety : Option FieldType} {n : Nat} (k : zLkS own idx y cy ny rety n) : GoodIn wsL_law (va_wsS own idx y (zW y cy ny rety)) := fun w hw => by
  obtain ⟨⟨h1, h2, h3, h4⟩, -⟩ := k
  have hm : w ∈ wsL_law := by
    unfold va_wsS at hw
    rcases List.mem_append.mp hw with hw | hw
    · simp only [List.mem_cons, List.not_mem_nil, or_false] at hw
      rcases hw with rfl | rfl | rfl
      · exact h1
      · exact h2
      · exact h3
    · exact (zW_sub h4 w hw).1
  exact ⟨hm, zW_good w hm⟩
/-- the callee's start holds at the call -/
theorem z_pre {av : List Value} (hF : zF G A s s.heap) (hK : va_K D vwCl (zTY G) s) (hPc : va_P D vwCl (wc ++ wr) H) (hDc : va_D A (wc ++ wr)) (hS : va_S A s.heap H locs) (hFc : ∀ q, va_A wc H.size q → A q) : ∀ U : State, U.heap = H → s.WarmedH U.vm → va_Pc av (zPre D G H.size wc) av.toArray U := fun U hU hW => by
  refine ⟨rfl, by rw [hU], by rw [hU]; exact zP_left hPc, va_K.moved hW.alike hK, (zD_left hDc).weaken (fun _ _ _ _ => trivial), ?_⟩
  rw [hU]
  exact zF_warm hW (zF_narrow (zF_kept hF (fun a h1 h2 => hS.2.1 a h1 h2)) hFc)
theorem z_backW {t : State} {H1 : Heap} (hPc : va_P D vwCl (wc ++ wr) H) (hDc : va_D A (wc ++ wr)) (hFc : ∀ q, va_A wc H.size q → A q) (ht : t.heap = H1) (hB : zPost D G H.size wc wc' t) (hk : ∀ q : Nat, q < H.size → ¬ va_A wc H.size q → H1[q]? = H[q]?) (hp2 : (wc' ++ wr).Perm ws') : va_P D vwCl ws' H1 ∧ va_D A ws' := by
  obtain ⟨hP1, hK1, hD1⟩ := hB
  rw [ht] at hP1
  obtain ⟨h1, h2⟩ := z_join hPc hDc hk hFc hP1 hD1
  exact ⟨zP_perm hp2 h1, zD_perm hp2 h2⟩
theorem z_Vi {y : MethodName} {cy : ByteArray} {ny fy Ly idx ci n bq N : Nat} {rety : Option FieldType} {As rest st0 fs : List Value} {T : u_T} {r : Int32} (C0 : zCx p s m args meth c cc nL ret own D G A) (k : zLkV own idx y cy ny rety n) (hM : zMi l y cy ny rety fy Ly D G wc wc' (.ref bq :: As) r)
    (hp1 : ws.Perm (wc ++ wr)) (hp2 : (wc' ++ wr).Perm ws') (hq0 : wc[0]? = some (bq, .inr (ci, fs))) (hci : vwCl[ci]? = some (y.cls, T, N)) (hn : As.length = n) (hR : fy + 1 ≤ R.frames ∧ 8 + (ny + 11) + Ly ≤ R.locals) (hrm : (rest.map fun v => v.category).sum ≤ 8) (hst : st0 = As.reverse ++ .ref bq :: rest) (hls : ls.size = nL)
    (hP : va_P D vwCl ws H) (hD : va_D A ws) (hS : va_S A s.heap H locs) (hdg : decode cc pc = .ok (.invokevirtual idx, 3))
    (kk : ∀ (H1 : Heap) (locs1 : List Loc), va_P D vwCl ws' H1 → va_D A ws' → va_S A s.heap H1 locs1 → W p l e R s m args below meth c H1 locs1 0 0 Q (F0 m (pc + 3) ls (.int r :: rest))) : W p l e R s m args below meth c H locs 0 0 Q (F0 m pc ls st0) := by
  obtain ⟨hx, hb, hml, hown, hW, hK, hlocks, hF, hr, hA⟩ := C0
  subst hst
  have hPc := zP_perm hp1 hP
  have hDc := zD_perm hp1 hD
  have hFc := z_free hDc hS hA
  refine va_calli (va_runV (As := As) (rest := rest) ⟨hx, hb, hml, hown, hW⟩ (hM H.size) (cwV n hW (z_goodV k) rfl rfl rfl ⟨rfl, k.2⟩ hR) ⟨zPre_blind, va_recv hK (zP_left hPc) hci hq0, z_pre hF hK hPc hDc hS hFc⟩ rfl hn hls rfl (lv_room hrm) hdg ⟨Nat.zero_le _, Nat.zero_le _⟩) hS (fun q _ h => hFc q h) hFc (fun x u t H1 locs1 ht hvm hw hB hz1 hk1 hS1 => ?_)
  obtain ⟨h1, h2⟩ := z_backW hPc hDc hFc ht hB hk1 hp2
  subst hw
  exact kk H1 locs1 h1 h2 hS1
theorem z_Vl {y : MethodName} {cy : ByteArray} {ny fy Ly idx ci n bq N : Nat} {rety : Option FieldType} {As rest st0 fs : List Value} {T : u_T} {r : Int64} (C0 : zCx p s m args meth c cc nL ret own D G A) (k : zLkV own idx y cy ny rety n) (hM : zMl l y cy ny rety fy Ly D G wc wc' (.ref bq :: As) r)
    (hp1 : ws.Perm (wc ++ wr)) (hp2 : (wc' ++ wr).Perm ws') (hq0 : wc[0]? = some (bq, .inr (ci, fs))) (hci : vwCl[ci]? = some (y.cls, T, N)) (hn : As.length = n) (hR : fy + 1 ≤ R.frames ∧ 8 + (ny + 11) + Ly ≤ R.locals) (hrm : (rest.map fun v => v.category).sum ≤ 8) (hst : st0 = As.reverse ++ .ref bq :: rest) (hls : ls.size = nL)
    (hP : va_P D vwCl ws H) (hD : va_D A ws) (hS : va_S A s.heap H locs) (hdg : decode cc pc = .ok (.invokevirtual idx, 3))
    (kk : ∀ (H1 : Heap) (locs1 : List Loc), va_P D vwCl ws' H1 → va_D A ws' → va_S A s.heap H1 locs1 → W p l e R s m args below meth c H1 locs1 0 0 Q (F0 m (pc + 3) ls (.long r :: rest))) : W p l e R s m args below meth c H locs 0 0 Q (F0 m pc ls st0) := by
  obtain ⟨hx, hb, hml, hown, hW, hK, hlocks, hF, hr, hA⟩ := C0
  subst hst
  have hPc := zP_perm hp1 hP
  have hDc := zD_perm hp1 hD
  have hFc := z_free hDc hS hA
  refine va_calll (va_runV (As := As) (rest := rest) ⟨hx, hb, hml, hown, hW⟩ (hM H.size) (cwV n hW (z_goodV k) rfl rfl rfl ⟨rfl, k.2⟩ hR) ⟨zPre_blind, va_recv hK (zP_left hPc) hci hq0, z_pre hF hK hPc hDc hS hFc⟩ rfl hn hls rfl (lv_room hrm) hdg ⟨Nat.zero_le _, Nat.zero_le _⟩) hS (fun q _ h => hFc q h) hFc (fun x u t H1 locs1 ht hvm hw hB hz1 hk1 hS1 => ?_)
  obtain ⟨h1, h2⟩ := z_backW hPc hDc hFc ht hB hk1 hp2
  subst hw
  exact kk H1 locs1 h1 h2 hS1
theorem z_Vv {y : MethodName} {cy : ByteArray} {ny fy Ly idx ci n bq N : Nat} {rety : Option FieldType} {As rest st0 fs : List Value} {T : u_T} (C0 : zCx p s m args meth c cc nL ret own D G A) (k : zLkV own idx y cy ny rety n) (hM : zMv l y cy ny rety fy Ly D G wc wc' (.ref bq :: As))
    (hp1 : ws.Perm (wc ++ wr)) (hp2 : (wc' ++ wr).Perm ws') (hq0 : wc[0]? = some (bq, .inr (ci, fs))) (hci : vwCl[ci]? = some (y.cls, T, N)) (hn : As.length = n) (hR : fy + 1 ≤ R.frames ∧ 8 + (ny + 11) + Ly ≤ R.locals) (hrm : (rest.map fun v => v.category).sum ≤ 8) (hst : st0 = As.reverse ++ .ref bq :: rest) (hls : ls.size = nL)
    (hP : va_P D vwCl ws H) (hD : va_D A ws) (hS : va_S A s.heap H locs) (hdg : decode cc pc = .ok (.invokevirtual idx, 3))
    (kk : ∀ (H1 : Heap) (locs1 : List Loc), va_P D vwCl ws' H1 → va_D A ws' → va_S A s.heap H1 locs1 → W p l e R s m args below meth c H1 locs1 0 0 Q (F0 m (pc + 3) ls rest)) : W p l e R s m args below meth c H locs 0 0 Q (F0 m pc ls st0) := by
  obtain ⟨hx, hb, hml, hown, hW, hK, hlocks, hF, hr, hA⟩ := C0
  subst hst
  have hPc := zP_perm hp1 hP
  have hDc := zD_perm hp1 hD
  have hFc := z_free hDc hS hA
  refine va_callv (va_runV (As := As) (rest := rest) ⟨hx, hb, hml, hown, hW⟩ (hM H.size) (cwV n hW (z_goodV k) rfl rfl rfl ⟨rfl, k.2⟩ hR) ⟨zPre_blind, va_recv hK (zP_left hPc) hci hq0, z_pre hF hK hPc hDc hS hFc⟩ rfl hn hls rfl (lv_room hrm) hdg ⟨Nat.zero_le _, Nat.zero_le _⟩) hS (fun q _ h => hFc q h) hFc (fun u t H1 locs1 ht hvm hw hB hz1 hk1 hS1 => ?_)
  obtain ⟨h1, h2⟩ := z_backW hPc hDc hFc ht hB hk1 hp2
  exact kk H1 locs1 h1 h2 hS1
/-- static methods -/
theorem z_Si {y : MethodName} {cy : ByteArray} {ny fy Ly idx n : Nat} {rety : Option FieldType} {As rest st0 : List Value} {r : Int32} (C0 : zCx p s m args meth c cc nL ret own D G A) (k : zLkS own idx y cy ny rety n) (hM : zMi l y cy ny rety fy Ly D G wc wc' As r)
    (hp1 : ws.Perm (wc ++ wr)) (hp2 : (wc' ++ wr).Perm ws') (hn : As.length = n) (hR : fy + 1 ≤ R.frames ∧ 8 + (ny + 11) + Ly ≤ R.locals) (hrm : (rest.map fun v => v.category).sum ≤ 8) (hst : st0 = As.reverse ++ rest) (hls : ls.size = nL)
    (hP : va_P D vwCl ws H) (hD : va_D A ws) (hS : va_S A s.heap H locs) (hdg : decode cc pc = .ok (.invokestatic idx, 3))
    (kk : ∀ (H1 : Heap) (locs1 : List Loc), va_P D vwCl ws' H1 → va_D A ws' → va_S A s.heap H1 locs1 → W p l e R s m args below meth c H1 locs1 0 0 Q (F0 m (pc + 3) ls (.int r :: rest))) : W p l e R s m args below meth c H locs 0 0 Q (F0 m pc ls st0) := by
  obtain ⟨hx, hb, hml, hown, hW, hK, hlocks, hF, hr, hA⟩ := C0
  subst hst
  have hPc := zP_perm hp1 hP
  have hDc := zD_perm hp1 hD
  have hFc := z_free hDc hS hA
  refine va_calli (va_runS (As := As) (rest := rest) ⟨hx, hb, hml, hown, hW⟩ (hM H.size) (va_cwS n hW (z_goodS k) rfl rfl rfl k.2 hR) ⟨zPre_blind, z_pre hF hK hPc hDc hS hFc⟩ rfl hn hls rfl (lv_room hrm) hdg ⟨Nat.zero_le _, Nat.zero_le _⟩) hS (fun q _ h => hFc q h) hFc (fun x u t H1 locs1 ht hvm hw hB hz1 hk1 hS1 => ?_)
  obtain ⟨h1, h2⟩ := z_backW hPc hDc hFc ht hB hk1 hp2
  subst hw
  exact kk H1 locs1 h1 h2 hS1
theorem z_Sl {y : MethodName} {cy : ByteArray} {ny fy Ly idx n : Nat} {rety : Option FieldType} {As rest st0 : List Value} {r : Int64} (C0 : zCx p s m args meth c cc nL ret own D G A) (k : zLkS own idx y cy ny rety n) (hM : zMl l y cy ny rety fy Ly D G wc wc' As r)
    (hp1 : ws.Perm (wc ++ wr)) (hp2 : (wc' ++ wr).Perm ws') (hn : As.length = n) (hR : fy + 1 ≤ R.frames ∧ 8 + (ny + 11) + Ly ≤ R.locals) (hrm : (rest.map fun v => v.category).sum ≤ 8) (hst : st0 = As.reverse ++ rest) (hls : ls.size = nL)
    (hP : va_P D vwCl ws H) (hD : va_D A ws) (hS : va_S A s.heap H locs) (hdg : decode cc pc = .ok (.invokestatic idx, 3))
    (kk : ∀ (H1 : Heap) (locs1 : List Loc), va_P D vwCl ws' H1 → va_D A ws' → va_S A s.heap H1 locs1 → W p l e R s m args below meth c H1 locs1 0 0 Q (F0 m (pc + 3) ls (.long r :: rest))) : W p l e R s m args below meth c H locs 0 0 Q (F0 m pc ls st0) := by
  obtain ⟨hx, hb, hml, hown, hW, hK, hlocks, hF, hr, hA⟩ := C0
  subst hst
  have hPc := zP_perm hp1 hP
  have hDc := zD_perm hp1 hD
  have hFc := z_free hDc hS hA
  refine va_calll (va_runS (As := As) (rest := rest) ⟨hx, hb, hml, hown, hW⟩ (hM H.size) (va_cwS n hW (z_goodS k) rfl rfl rfl k.2 hR) ⟨zPre_blind, z_pre hF hK hPc hDc hS hFc⟩ rfl hn hls rfl (lv_room hrm) hdg ⟨Nat.zero_le _, Nat.zero_le _⟩) hS (fun q _ h => hFc q h) hFc (fun x u t H1 locs1 ht hvm hw hB hz1 hk1 hS1 => ?_)
  obtain ⟨h1, h2⟩ := z_backW hPc hDc hFc ht hB hk1 hp2
  subst hw
  exact kk H1 locs1 h1 h2 hS1
theorem z_Sv {y : MethodName} {cy : ByteArray} {ny fy Ly idx n : Nat} {rety : Option FieldType} {As rest st0 : List Value} (C0 : zCx p s m args meth c cc nL ret own D G A) (k : zLkS own idx y cy ny rety n) (hM : zMv l y cy ny rety fy Ly D G wc wc' As)
    (hp1 : ws.Perm (wc ++ wr)) (hp2 : (wc' ++ wr).Perm ws') (hn : As.length = n) (hR : fy + 1 ≤ R.frames ∧ 8 + (ny + 11) + Ly ≤ R.locals) (hrm : (rest.map fun v => v.category).sum ≤ 8) (hst : st0 = As.reverse ++ rest) (hls : ls.size = nL)
    (hP : va_P D vwCl ws H) (hD : va_D A ws) (hS : va_S A s.heap H locs) (hdg : decode cc pc = .ok (.invokestatic idx, 3))
    (kk : ∀ (H1 : Heap) (locs1 : List Loc), va_P D vwCl ws' H1 → va_D A ws' → va_S A s.heap H1 locs1 → W p l e R s m args below meth c H1 locs1 0 0 Q (F0 m (pc + 3) ls rest)) : W p l e R s m args below meth c H locs 0 0 Q (F0 m pc ls st0) := by
  obtain ⟨hx, hb, hml, hown, hW, hK, hlocks, hF, hr, hA⟩ := C0
  subst hst
  have hPc := zP_perm hp1 hP
  have hDc := zD_perm hp1 hD
  have hFc := z_free hDc hS hA
  refine va_callv (va_runS (As := As) (rest := rest) ⟨hx, hb, hml, hown, hW⟩ (hM H.size) (va_cwS n hW (z_goodS k) rfl rfl rfl k.2 hR) ⟨zPre_blind, z_pre hF hK hPc hDc hS hFc⟩ rfl hn hls rfl (lv_room hrm) hdg ⟨Nat.zero_le _, Nat.zero_le _⟩) hS (fun q _ h => hFc q h) hFc (fun u t H1 locs1 ht hvm hw hB hz1 hk1 hS1 => ?_)
  obtain ⟨h1, h2⟩ := z_backW hPc hDc hFc ht hB hk1 hp2
  exact kk H1 locs1 h1 h2 hS1
/-- a nest mate's private static method -/
theorem z_Ni {y : MethodName} {cy : ByteArray} {ny fy Ly idx n : Nat} {rety : Option FieldType} {As rest st0 : List Value} {r : Int32} (C0 : zCx p s m args meth c cc nL ret own D G A) (k : zLkN own idx y cy ny rety n) (hM : zMi l y cy ny rety fy Ly D G wc wc' As r)
    (hp1 : ws.Perm (wc ++ wr)) (hp2 : (wc' ++ wr).Perm ws') (hn : As.length = n) (hR : fy + 1 ≤ R.frames ∧ 8 + (ny + 11) + Ly ≤ R.locals) (hrm : (rest.map fun v => v.category).sum ≤ 8) (hst : st0 = As.reverse ++ rest) (hls : ls.size = nL)
    (hP : va_P D vwCl ws H) (hD : va_D A ws) (hS : va_S A s.heap H locs) (hdg : decode cc pc = .ok (.invokestatic idx, 3))
    (kk : ∀ (H1 : Heap) (locs1 : List Loc), va_P D vwCl ws' H1 → va_D A ws' → va_S A s.heap H1 locs1 → W p l e R s m args below meth c H1 locs1 0 0 Q (F0 m (pc + 3) ls (.int r :: rest))) : W p l e R s m args below meth c H locs 0 0 Q (F0 m pc ls st0) := by
  obtain ⟨hx, hb, hml, hown, hW, hK, hlocks, hF, hr, hA⟩ := C0
  subst hst
  have hPc := zP_perm hp1 hP
  have hDc := zD_perm hp1 hD
  have hFc := z_free hDc hS hA
  refine va_calli (va_runSN (As := As) (rest := rest) ⟨hx, hb, hml, hown, hW⟩ (hM H.size) ⟨va_cnB n hW (zW_sub k.1.2.2.2) rfl rfl rfl (hF.1 _ k.1.1) (hW _ k.1.2.2.1) k.2 hR, hW _ k.1.2.1, trivial⟩ ⟨zPre_blind, z_pre hF hK hPc hDc hS hFc⟩ rfl hn hls rfl (lv_room hrm) hdg ⟨Nat.zero_le _, Nat.zero_le _⟩) hS (fun q _ h => hFc q h) hFc (fun x u t H1 locs1 ht hvm hw hB hz1 hk1 hS1 => ?_)
  obtain ⟨h1, h2⟩ := z_backW hPc hDc hFc ht hB hk1 hp2
  subst hw
  exact kk H1 locs1 h1 h2 hS1
end ZR
theorem z_pmid {X wc Y : va_W} : (X ++ (wc ++ Y)).Perm (wc ++ (X ++ Y)) := by
  rw [← List.append_assoc, ← List.append_assoc]
  exact List.Perm.append_right Y List.perm_append_comm
end

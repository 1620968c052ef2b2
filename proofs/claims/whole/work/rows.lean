section
-- ===== PART A: goes FIRST, ahead of the names: the tables' words, and 'selects' of the private methods out of them =====
/-- a private method of a class that the tables say can be made, by its rows of tables_1 -/
def lw_okq (q : MethodName × Nat) : Prop := (q.1.cls ≠ "java/lang/invoke/MethodHandle" ∧ q.1.cls ≠ "java/lang/invoke/VarHandle") ∧ Cond.instantiable q.1.cls q.2 ∈ tables_1 ∧ Cond.privateMethod q.1 ∈ tables_1 ∧ Cond.instanceMethod q.1 ∈ tables_1
theorem lw_p0 : lw_okq (⟨"QuietChecks$History", "rowAt", "(I)LQuietChecks$Disk;"⟩, 2) := ⟨⟨by decide +kernel, by decide +kernel⟩, List.mem_of_getElem? (i := 154) (by decide +kernel), List.mem_of_getElem? (i := 262) (by decide +kernel), List.mem_of_getElem? (i := 263) (by decide +kernel)⟩
theorem lw_p1 : lw_okq (⟨"QuietChecks$History", "discardOldest", "()V"⟩, 2) := ⟨⟨by decide +kernel, by decide +kernel⟩, List.mem_of_getElem? (i := 154) (by decide +kernel), List.mem_of_getElem? (i := 300) (by decide +kernel), List.mem_of_getElem? (i := 301) (by decide +kernel)⟩
theorem lw_p2 : lw_okq (⟨"QuietChecks$Disk", "pauseCheck", "()V"⟩, 17) := ⟨⟨by decide +kernel, by decide +kernel⟩, List.mem_of_getElem? (i := 29) (by decide +kernel), List.mem_of_getElem? (i := 377) (by decide +kernel), List.mem_of_getElem? (i := 378) (by decide +kernel)⟩
theorem lw_p3 : lw_okq (⟨"QuietChecks$Disk", "isDue", "(I)Z"⟩, 17) := ⟨⟨by decide +kernel, by decide +kernel⟩, List.mem_of_getElem? (i := 29) (by decide +kernel), List.mem_of_getElem? (i := 409) (by decide +kernel), List.mem_of_getElem? (i := 410) (by decide +kernel)⟩
theorem lw_p4 : lw_okq (⟨"QuietChecks$Disk", "ageOf", "(I)I"⟩, 17) := ⟨⟨by decide +kernel, by decide +kernel⟩, List.mem_of_getElem? (i := 29) (by decide +kernel), List.mem_of_getElem? (i := 413) (by decide +kernel), List.mem_of_getElem? (i := 414) (by decide +kernel)⟩
theorem lw_p5 : lw_okq (⟨"QuietChecks$Disk", "rankOf", "(I)I"⟩, 17) := ⟨⟨by decide +kernel, by decide +kernel⟩, List.mem_of_getElem? (i := 29) (by decide +kernel), List.mem_of_getElem? (i := 417) (by decide +kernel), List.mem_of_getElem? (i := 418) (by decide +kernel)⟩
theorem lw_p6 : lw_okq (⟨"QuietChecks$Disk", "beginCheck", "(I)V"⟩, 17) := ⟨⟨by decide +kernel, by decide +kernel⟩, List.mem_of_getElem? (i := 29) (by decide +kernel), List.mem_of_getElem? (i := 428) (by decide +kernel), List.mem_of_getElem? (i := 429) (by decide +kernel)⟩
theorem lw_p7 : lw_okq (⟨"QuietChecks$Disk", "ticksOfCheck", "(I)I"⟩, 17) := ⟨⟨by decide +kernel, by decide +kernel⟩, List.mem_of_getElem? (i := 29) (by decide +kernel), List.mem_of_getElem? (i := 432) (by decide +kernel), List.mem_of_getElem? (i := 433) (by decide +kernel)⟩
theorem lw_p8 : lw_okq (⟨"QuietChecks$Disk", "endCheck", "(I)V"⟩, 17) := ⟨⟨by decide +kernel, by decide +kernel⟩, List.mem_of_getElem? (i := 29) (by decide +kernel), List.mem_of_getElem? (i := 436) (by decide +kernel), List.mem_of_getElem? (i := 437) (by decide +kernel)⟩
theorem lw_p9 : lw_okq (⟨"QuietChecks$Disk", "clearCheck", "()V"⟩, 17) := ⟨⟨by decide +kernel, by decide +kernel⟩, List.mem_of_getElem? (i := 29) (by decide +kernel), List.mem_of_getElem? (i := 440) (by decide +kernel), List.mem_of_getElem? (i := 441) (by decide +kernel)⟩
theorem lw_p10 : lw_okq (⟨"QuietChecks$Disk", "lookAtSpot", "(III)V"⟩, 17) := ⟨⟨by decide +kernel, by decide +kernel⟩, List.mem_of_getElem? (i := 29) (by decide +kernel), List.mem_of_getElem? (i := 444) (by decide +kernel), List.mem_of_getElem? (i := 445) (by decide +kernel)⟩
theorem lw_p11 : lw_okq (⟨"QuietChecks$Disk", "isOverdue", "(I)Z"⟩, 17) := ⟨⟨by decide +kernel, by decide +kernel⟩, List.mem_of_getElem? (i := 29) (by decide +kernel), List.mem_of_getElem? (i := 478) (by decide +kernel), List.mem_of_getElem? (i := 479) (by decide +kernel)⟩
theorem lw_p12 : lw_okq (⟨"QuietChecks$Log", "placeOf", "(I)I"⟩, 5) := ⟨⟨by decide +kernel, by decide +kernel⟩, List.mem_of_getElem? (i := 70) (by decide +kernel), List.mem_of_getElem? (i := 506) (by decide +kernel), List.mem_of_getElem? (i := 507) (by decide +kernel)⟩
theorem lw_p13 : lw_okq (⟨"QuietChecks", "writeLine", "(I)V"⟩, 5) := ⟨⟨by decide +kernel, by decide +kernel⟩, List.mem_of_getElem? (i := 21) (by decide +kernel), List.mem_of_getElem? (i := 521) (by decide +kernel), List.mem_of_getElem? (i := 522) (by decide +kernel)⟩
theorem lw_p14 : lw_okq (⟨"QuietChecks", "overdueAfter", "(II)I"⟩, 5) := ⟨⟨by decide +kernel, by decide +kernel⟩, List.mem_of_getElem? (i := 21) (by decide +kernel), List.mem_of_getElem? (i := 761) (by decide +kernel), List.mem_of_getElem? (i := 762) (by decide +kernel)⟩
theorem lw_p15 : lw_okq (⟨"QuietChecks$Plan", "takeCommand", "(I)Z"⟩, 8) := ⟨⟨by decide +kernel, by decide +kernel⟩, List.mem_of_getElem? (i := 170) (by decide +kernel), List.mem_of_getElem? (i := 793) (by decide +kernel), List.mem_of_getElem? (i := 794) (by decide +kernel)⟩
def lw_privs_1 : List (MethodName × Nat) := [(⟨"QuietChecks$History", "rowAt", "(I)LQuietChecks$Disk;"⟩, 2), (⟨"QuietChecks$History", "discardOldest", "()V"⟩, 2), (⟨"QuietChecks$Disk", "pauseCheck", "()V"⟩, 17), (⟨"QuietChecks$Disk", "isDue", "(I)Z"⟩, 17), (⟨"QuietChecks$Disk", "ageOf", "(I)I"⟩, 17), (⟨"QuietChecks$Disk", "rankOf", "(I)I"⟩, 17), (⟨"QuietChecks$Disk", "beginCheck", "(I)V"⟩, 17), (⟨"QuietChecks$Disk", "ticksOfCheck", "(I)I"⟩, 17), (⟨"QuietChecks$Disk", "endCheck", "(I)V"⟩, 17), (⟨"QuietChecks$Disk", "clearCheck", "()V"⟩, 17), (⟨"QuietChecks$Disk", "lookAtSpot", "(III)V"⟩, 17), (⟨"QuietChecks$Disk", "isOverdue", "(I)Z"⟩, 17), (⟨"QuietChecks$Log", "placeOf", "(I)I"⟩, 5), (⟨"QuietChecks", "writeLine", "(I)V"⟩, 5), (⟨"QuietChecks", "overdueAfter", "(II)I"⟩, 5), (⟨"QuietChecks$Plan", "takeCommand", "(I)Z"⟩, 8)]
theorem lw_r1 : ∀ q ∈ lw_privs_1, lw_okq q := List.forall_mem_cons.mpr ⟨lw_p0, List.forall_mem_cons.mpr ⟨lw_p1, List.forall_mem_cons.mpr ⟨lw_p2, List.forall_mem_cons.mpr ⟨lw_p3, List.forall_mem_cons.mpr ⟨lw_p4, List.forall_mem_cons.mpr ⟨lw_p5, List.forall_mem_cons.mpr ⟨lw_p6, List.forall_mem_cons.mpr ⟨lw_p7, List.forall_mem_cons.mpr ⟨lw_p8, List.forall_mem_cons.mpr ⟨lw_p9, List.forall_mem_cons.mpr ⟨lw_p10, List.forall_mem_cons.mpr ⟨lw_p11, List.forall_mem_cons.mpr ⟨lw_p12, List.forall_mem_cons.mpr ⟨lw_p13, List.forall_mem_cons.mpr ⟨lw_p14, List.forall_mem_cons.mpr ⟨lw_p15, fun _ h => absurd h List.not_mem_nil⟩⟩⟩⟩⟩⟩⟩⟩⟩⟩⟩⟩⟩⟩⟩⟩
theorem lw_p16 : lw_okq (⟨"QuietChecks$Plan", "sign", "()C"⟩, 8) := ⟨⟨by decide +kernel, by decide +kernel⟩, List.mem_of_getElem? (i := 170) (by decide +kernel), List.mem_of_getElem? (i := 797) (by decide +kernel), List.mem_of_getElem? (i := 798) (by decide +kernel)⟩
theorem lw_p17 : lw_okq (⟨"QuietChecks$Plan", "takeWord", "(Ljava/lang/String;)Z"⟩, 8) := ⟨⟨by decide +kernel, by decide +kernel⟩, List.mem_of_getElem? (i := 170) (by decide +kernel), List.mem_of_getElem? (i := 802) (by decide +kernel), List.mem_of_getElem? (i := 803) (by decide +kernel)⟩
theorem lw_p18 : lw_okq (⟨"QuietChecks$Plan", "takeSign", "(C)Z"⟩, 8) := ⟨⟨by decide +kernel, by decide +kernel⟩, List.mem_of_getElem? (i := 170) (by decide +kernel), List.mem_of_getElem? (i := 823) (by decide +kernel), List.mem_of_getElem? (i := 824) (by decide +kernel)⟩
theorem lw_p19 : lw_okq (⟨"QuietChecks$Plan", "takeSpan", "()Z"⟩, 8) := ⟨⟨by decide +kernel, by decide +kernel⟩, List.mem_of_getElem? (i := 170) (by decide +kernel), List.mem_of_getElem? (i := 827) (by decide +kernel), List.mem_of_getElem? (i := 828) (by decide +kernel)⟩
theorem lw_p20 : lw_okq (⟨"QuietChecks$Plan", "takeDigit", "(CC)Z"⟩, 8) := ⟨⟨by decide +kernel, by decide +kernel⟩, List.mem_of_getElem? (i := 170) (by decide +kernel), List.mem_of_getElem? (i := 831) (by decide +kernel), List.mem_of_getElem? (i := 832) (by decide +kernel)⟩
theorem lw_p21 : lw_okq (⟨"QuietChecks$Plan", "note", "(II)Z"⟩, 8) := ⟨⟨by decide +kernel, by decide +kernel⟩, List.mem_of_getElem? (i := 170) (by decide +kernel), List.mem_of_getElem? (i := 835) (by decide +kernel), List.mem_of_getElem? (i := 836) (by decide +kernel)⟩
theorem lw_p22 : lw_okq (⟨"QuietChecks$Plan", "takeNumber", "()Z"⟩, 8) := ⟨⟨by decide +kernel, by decide +kernel⟩, List.mem_of_getElem? (i := 170) (by decide +kernel), List.mem_of_getElem? (i := 839) (by decide +kernel), List.mem_of_getElem? (i := 840) (by decide +kernel)⟩
theorem lw_p23 : lw_okq (⟨"QuietChecks$Plan", "noteSecond", "(I)Z"⟩, 8) := ⟨⟨by decide +kernel, by decide +kernel⟩, List.mem_of_getElem? (i := 170) (by decide +kernel), List.mem_of_getElem? (i := 843) (by decide +kernel), List.mem_of_getElem? (i := 844) (by decide +kernel)⟩
theorem lw_p24 : lw_okq (⟨"QuietChecks$Plan", "takeWay", "()Z"⟩, 8) := ⟨⟨by decide +kernel, by decide +kernel⟩, List.mem_of_getElem? (i := 170) (by decide +kernel), List.mem_of_getElem? (i := 851) (by decide +kernel), List.mem_of_getElem? (i := 852) (by decide +kernel)⟩
theorem lw_p25 : lw_okq (⟨"QuietChecks", "doCommand", "(I)I"⟩, 5) := ⟨⟨by decide +kernel, by decide +kernel⟩, List.mem_of_getElem? (i := 21) (by decide +kernel), List.mem_of_getElem? (i := 862) (by decide +kernel), List.mem_of_getElem? (i := 863) (by decide +kernel)⟩
theorem lw_p26 : lw_okq (⟨"QuietChecks", "hashSpan", "(JI)J"⟩, 5) := ⟨⟨by decide +kernel, by decide +kernel⟩, List.mem_of_getElem? (i := 21) (by decide +kernel), List.mem_of_getElem? (i := 882) (by decide +kernel), List.mem_of_getElem? (i := 883) (by decide +kernel)⟩
theorem lw_p27 : lw_okq (⟨"QuietChecks", "hashEntry", "(JI)J"⟩, 5) := ⟨⟨by decide +kernel, by decide +kernel⟩, List.mem_of_getElem? (i := 21) (by decide +kernel), List.mem_of_getElem? (i := 890) (by decide +kernel), List.mem_of_getElem? (i := 891) (by decide +kernel)⟩
theorem lw_p28 : lw_okq (⟨"QuietChecksModel", "sets", "(II)I"⟩, 11) := ⟨⟨by decide +kernel, by decide +kernel⟩, List.mem_of_getElem? (i := 896) (by decide +kernel), List.mem_of_getElem? (i := 949) (by decide +kernel), List.mem_of_getElem? (i := 950) (by decide +kernel)⟩
theorem lw_p29 : lw_okq (⟨"QuietChecksModel", "record", "()V"⟩, 11) := ⟨⟨by decide +kernel, by decide +kernel⟩, List.mem_of_getElem? (i := 896) (by decide +kernel), List.mem_of_getElem? (i := 953) (by decide +kernel), List.mem_of_getElem? (i := 954) (by decide +kernel)⟩
theorem lw_p30 : lw_okq (⟨"QuietChecksModel", "whyNotSpot", "(II)I"⟩, 11) := ⟨⟨by decide +kernel, by decide +kernel⟩, List.mem_of_getElem? (i := 896) (by decide +kernel), List.mem_of_getElem? (i := 972) (by decide +kernel), List.mem_of_getElem? (i := 973) (by decide +kernel)⟩
theorem lw_p31 : lw_okq (⟨"QuietChecksModel", "adds", "(II)I"⟩, 11) := ⟨⟨by decide +kernel, by decide +kernel⟩, List.mem_of_getElem? (i := 896) (by decide +kernel), List.mem_of_getElem? (i := 979) (by decide +kernel), List.mem_of_getElem? (i := 980) (by decide +kernel)⟩
def lw_privs_2 : List (MethodName × Nat) := [(⟨"QuietChecks$Plan", "sign", "()C"⟩, 8), (⟨"QuietChecks$Plan", "takeWord", "(Ljava/lang/String;)Z"⟩, 8), (⟨"QuietChecks$Plan", "takeSign", "(C)Z"⟩, 8), (⟨"QuietChecks$Plan", "takeSpan", "()Z"⟩, 8), (⟨"QuietChecks$Plan", "takeDigit", "(CC)Z"⟩, 8), (⟨"QuietChecks$Plan", "note", "(II)Z"⟩, 8), (⟨"QuietChecks$Plan", "takeNumber", "()Z"⟩, 8), (⟨"QuietChecks$Plan", "noteSecond", "(I)Z"⟩, 8), (⟨"QuietChecks$Plan", "takeWay", "()Z"⟩, 8), (⟨"QuietChecks", "doCommand", "(I)I"⟩, 5), (⟨"QuietChecks", "hashSpan", "(JI)J"⟩, 5), (⟨"QuietChecks", "hashEntry", "(JI)J"⟩, 5), (⟨"QuietChecksModel", "sets", "(II)I"⟩, 11), (⟨"QuietChecksModel", "record", "()V"⟩, 11), (⟨"QuietChecksModel", "whyNotSpot", "(II)I"⟩, 11), (⟨"QuietChecksModel", "adds", "(II)I"⟩, 11)]
theorem lw_r2 : ∀ q ∈ lw_privs_2, lw_okq q := List.forall_mem_cons.mpr ⟨lw_p16, List.forall_mem_cons.mpr ⟨lw_p17, List.forall_mem_cons.mpr ⟨lw_p18, List.forall_mem_cons.mpr ⟨lw_p19, List.forall_mem_cons.mpr ⟨lw_p20, List.forall_mem_cons.mpr ⟨lw_p21, List.forall_mem_cons.mpr ⟨lw_p22, List.forall_mem_cons.mpr ⟨lw_p23, List.forall_mem_cons.mpr ⟨lw_p24, List.forall_mem_cons.mpr ⟨lw_p25, List.forall_mem_cons.mpr ⟨lw_p26, List.forall_mem_cons.mpr ⟨lw_p27, List.forall_mem_cons.mpr ⟨lw_p28, List.forall_mem_cons.mpr ⟨lw_p29, List.forall_mem_cons.mpr ⟨lw_p30, List.forall_mem_cons.mpr ⟨lw_p31, fun _ h => absurd h List.not_mem_nil⟩⟩⟩⟩⟩⟩⟩⟩⟩⟩⟩⟩⟩⟩⟩⟩
theorem lw_p32 : lw_okq (⟨"QuietChecksModel", "spotsMany", "(I)I"⟩, 11) := ⟨⟨by decide +kernel, by decide +kernel⟩, List.mem_of_getElem? (i := 896) (by decide +kernel), List.mem_of_getElem? (i := 983) (by decide +kernel), List.mem_of_getElem? (i := 984) (by decide +kernel)⟩
theorem lw_p33 : lw_okq (⟨"QuietChecksModel", "spotSpan", "(I)I"⟩, 11) := ⟨⟨by decide +kernel, by decide +kernel⟩, List.mem_of_getElem? (i := 896) (by decide +kernel), List.mem_of_getElem? (i := 987) (by decide +kernel), List.mem_of_getElem? (i := 988) (by decide +kernel)⟩
theorem lw_p34 : lw_okq (⟨"QuietChecksModel", "whyNotAsked", "(I)I"⟩, 11) := ⟨⟨by decide +kernel, by decide +kernel⟩, List.mem_of_getElem? (i := 896) (by decide +kernel), List.mem_of_getElem? (i := 995) (by decide +kernel), List.mem_of_getElem? (i := 996) (by decide +kernel)⟩
theorem lw_p35 : lw_okq (⟨"QuietChecksModel", "placeOf", "(I)I"⟩, 11) := ⟨⟨by decide +kernel, by decide +kernel⟩, List.mem_of_getElem? (i := 896) (by decide +kernel), List.mem_of_getElem? (i := 999) (by decide +kernel), List.mem_of_getElem? (i := 1000) (by decide +kernel)⟩
theorem lw_p36 : lw_okq (⟨"QuietChecksModel", "asks", "(I)I"⟩, 11) := ⟨⟨by decide +kernel, by decide +kernel⟩, List.mem_of_getElem? (i := 896) (by decide +kernel), List.mem_of_getElem? (i := 1003) (by decide +kernel), List.mem_of_getElem? (i := 1004) (by decide +kernel)⟩
theorem lw_p37 : lw_okq (⟨"QuietChecksModel", "takesOut", "(I)V"⟩, 11) := ⟨⟨by decide +kernel, by decide +kernel⟩, List.mem_of_getElem? (i := 896) (by decide +kernel), List.mem_of_getElem? (i := 1011) (by decide +kernel), List.mem_of_getElem? (i := 1012) (by decide +kernel)⟩
theorem lw_p38 : lw_okq (⟨"QuietChecksModel", "whyNotRead", "(II)I"⟩, 11) := ⟨⟨by decide +kernel, by decide +kernel⟩, List.mem_of_getElem? (i := 896) (by decide +kernel), List.mem_of_getElem? (i := 1019) (by decide +kernel), List.mem_of_getElem? (i := 1020) (by decide +kernel)⟩
theorem lw_p39 : lw_okq (⟨"QuietChecksModel", "reads", "(II)I"⟩, 11) := ⟨⟨by decide +kernel, by decide +kernel⟩, List.mem_of_getElem? (i := 896) (by decide +kernel), List.mem_of_getElem? (i := 1024) (by decide +kernel), List.mem_of_getElem? (i := 1025) (by decide +kernel)⟩
theorem lw_p40 : lw_okq (⟨"QuietChecksModel", "logs", "(II)V"⟩, 11) := ⟨⟨by decide +kernel, by decide +kernel⟩, List.mem_of_getElem? (i := 896) (by decide +kernel), List.mem_of_getElem? (i := 1028) (by decide +kernel), List.mem_of_getElem? (i := 1029) (by decide +kernel)⟩
theorem lw_p41 : lw_okq (⟨"QuietChecksModel", "isSlow", "(I)Z"⟩, 11) := ⟨⟨by decide +kernel, by decide +kernel⟩, List.mem_of_getElem? (i := 896) (by decide +kernel), List.mem_of_getElem? (i := 1032) (by decide +kernel), List.mem_of_getElem? (i := 1033) (by decide +kernel)⟩
theorem lw_p42 : lw_okq (⟨"QuietChecksModel", "spotTries", "(I)I"⟩, 11) := ⟨⟨by decide +kernel, by decide +kernel⟩, List.mem_of_getElem? (i := 896) (by decide +kernel), List.mem_of_getElem? (i := 1036) (by decide +kernel), List.mem_of_getElem? (i := 1037) (by decide +kernel)⟩
theorem lw_p43 : lw_okq (⟨"QuietChecksModel", "whyNotQuiet", "(I)I"⟩, 11) := ⟨⟨by decide +kernel, by decide +kernel⟩, List.mem_of_getElem? (i := 896) (by decide +kernel), List.mem_of_getElem? (i := 1044) (by decide +kernel), List.mem_of_getElem? (i := 1045) (by decide +kernel)⟩
theorem lw_p44 : lw_okq (⟨"QuietChecksModel", "passes", "(I)I"⟩, 11) := ⟨⟨by decide +kernel, by decide +kernel⟩, List.mem_of_getElem? (i := 896) (by decide +kernel), List.mem_of_getElem? (i := 1048) (by decide +kernel), List.mem_of_getElem? (i := 1049) (by decide +kernel)⟩
theorem lw_p45 : lw_okq (⟨"QuietChecksModel", "passesTick", "()I"⟩, 11) := ⟨⟨by decide +kernel, by decide +kernel⟩, List.mem_of_getElem? (i := 896) (by decide +kernel), List.mem_of_getElem? (i := 1052) (by decide +kernel), List.mem_of_getElem? (i := 1053) (by decide +kernel)⟩
theorem lw_p46 : lw_okq (⟨"QuietChecksModel", "begins", "()V"⟩, 11) := ⟨⟨by decide +kernel, by decide +kernel⟩, List.mem_of_getElem? (i := 896) (by decide +kernel), List.mem_of_getElem? (i := 1056) (by decide +kernel), List.mem_of_getElem? (i := 1057) (by decide +kernel)⟩
theorem lw_p47 : lw_okq (⟨"QuietChecksModel", "nextSpan", "()I"⟩, 11) := ⟨⟨by decide +kernel, by decide +kernel⟩, List.mem_of_getElem? (i := 896) (by decide +kernel), List.mem_of_getElem? (i := 1060) (by decide +kernel), List.mem_of_getElem? (i := 1061) (by decide +kernel)⟩
def lw_privs_3 : List (MethodName × Nat) := [(⟨"QuietChecksModel", "spotsMany", "(I)I"⟩, 11), (⟨"QuietChecksModel", "spotSpan", "(I)I"⟩, 11), (⟨"QuietChecksModel", "whyNotAsked", "(I)I"⟩, 11), (⟨"QuietChecksModel", "placeOf", "(I)I"⟩, 11), (⟨"QuietChecksModel", "asks", "(I)I"⟩, 11), (⟨"QuietChecksModel", "takesOut", "(I)V"⟩, 11), (⟨"QuietChecksModel", "whyNotRead", "(II)I"⟩, 11), (⟨"QuietChecksModel", "reads", "(II)I"⟩, 11), (⟨"QuietChecksModel", "logs", "(II)V"⟩, 11), (⟨"QuietChecksModel", "isSlow", "(I)Z"⟩, 11), (⟨"QuietChecksModel", "spotTries", "(I)I"⟩, 11), (⟨"QuietChecksModel", "whyNotQuiet", "(I)I"⟩, 11), (⟨"QuietChecksModel", "passes", "(I)I"⟩, 11), (⟨"QuietChecksModel", "passesTick", "()I"⟩, 11), (⟨"QuietChecksModel", "begins", "()V"⟩, 11), (⟨"QuietChecksModel", "nextSpan", "()I"⟩, 11)]
theorem lw_r3 : ∀ q ∈ lw_privs_3, lw_okq q := List.forall_mem_cons.mpr ⟨lw_p32, List.forall_mem_cons.mpr ⟨lw_p33, List.forall_mem_cons.mpr ⟨lw_p34, List.forall_mem_cons.mpr ⟨lw_p35, List.forall_mem_cons.mpr ⟨lw_p36, List.forall_mem_cons.mpr ⟨lw_p37, List.forall_mem_cons.mpr ⟨lw_p38, List.forall_mem_cons.mpr ⟨lw_p39, List.forall_mem_cons.mpr ⟨lw_p40, List.forall_mem_cons.mpr ⟨lw_p41, List.forall_mem_cons.mpr ⟨lw_p42, List.forall_mem_cons.mpr ⟨lw_p43, List.forall_mem_cons.mpr ⟨lw_p44, List.forall_mem_cons.mpr ⟨lw_p45, List.forall_mem_cons.mpr ⟨lw_p46, List.forall_mem_cons.mpr ⟨lw_p47, fun _ h => absurd h List.not_mem_nil⟩⟩⟩⟩⟩⟩⟩⟩⟩⟩⟩⟩⟩⟩⟩⟩
theorem lw_p48 : lw_okq (⟨"QuietChecksModel", "bestDue", "()I"⟩, 11) := ⟨⟨by decide +kernel, by decide +kernel⟩, List.mem_of_getElem? (i := 896) (by decide +kernel), List.mem_of_getElem? (i := 1064) (by decide +kernel), List.mem_of_getElem? (i := 1065) (by decide +kernel)⟩
theorem lw_p49 : lw_okq (⟨"QuietChecksModel", "age", "(I)I"⟩, 11) := ⟨⟨by decide +kernel, by decide +kernel⟩, List.mem_of_getElem? (i := 896) (by decide +kernel), List.mem_of_getElem? (i := 1068) (by decide +kernel), List.mem_of_getElem? (i := 1069) (by decide +kernel)⟩
theorem lw_p50 : lw_okq (⟨"QuietChecksModel", "sumOf", "(II)I"⟩, 11) := ⟨⟨by decide +kernel, by decide +kernel⟩, List.mem_of_getElem? (i := 896) (by decide +kernel), List.mem_of_getElem? (i := 1072) (by decide +kernel), List.mem_of_getElem? (i := 1073) (by decide +kernel)⟩
theorem lw_p51 : lw_okq (⟨"QuietChecksModel", "isDue", "(I)Z"⟩, 11) := ⟨⟨by decide +kernel, by decide +kernel⟩, List.mem_of_getElem? (i := 896) (by decide +kernel), List.mem_of_getElem? (i := 1076) (by decide +kernel), List.mem_of_getElem? (i := 1077) (by decide +kernel)⟩
theorem lw_p52 : lw_okq (⟨"QuietChecksModel", "takes", "(I)I"⟩, 11) := ⟨⟨by decide +kernel, by decide +kernel⟩, List.mem_of_getElem? (i := 896) (by decide +kernel), List.mem_of_getElem? (i := 1080) (by decide +kernel), List.mem_of_getElem? (i := 1081) (by decide +kernel)⟩
theorem lw_p53 : lw_okq (⟨"QuietChecksModel", "endsCheck", "()V"⟩, 11) := ⟨⟨by decide +kernel, by decide +kernel⟩, List.mem_of_getElem? (i := 896) (by decide +kernel), List.mem_of_getElem? (i := 1084) (by decide +kernel), List.mem_of_getElem? (i := 1085) (by decide +kernel)⟩
theorem lw_p54 : lw_okq (⟨"QuietChecksModel", "stops", "()V"⟩, 11) := ⟨⟨by decide +kernel, by decide +kernel⟩, List.mem_of_getElem? (i := 896) (by decide +kernel), List.mem_of_getElem? (i := 1088) (by decide +kernel), List.mem_of_getElem? (i := 1089) (by decide +kernel)⟩
theorem lw_p55 : lw_okq (⟨"QuietChecksModel", "ofSpan", "(II)I"⟩, 11) := ⟨⟨by decide +kernel, by decide +kernel⟩, List.mem_of_getElem? (i := 896) (by decide +kernel), List.mem_of_getElem? (i := 1108) (by decide +kernel), List.mem_of_getElem? (i := 1109) (by decide +kernel)⟩
theorem lw_p56 : lw_okq (⟨"QuietChecksModel", "entriesMany", "()I"⟩, 11) := ⟨⟨by decide +kernel, by decide +kernel⟩, List.mem_of_getElem? (i := 896) (by decide +kernel), List.mem_of_getElem? (i := 1120) (by decide +kernel), List.mem_of_getElem? (i := 1121) (by decide +kernel)⟩
theorem lw_p57 : lw_okq (⟨"QuietChecksModel", "isEntry", "(I)Z"⟩, 11) := ⟨⟨by decide +kernel, by decide +kernel⟩, List.mem_of_getElem? (i := 896) (by decide +kernel), List.mem_of_getElem? (i := 1128) (by decide +kernel), List.mem_of_getElem? (i := 1129) (by decide +kernel)⟩
theorem lw_p58 : lw_okq (⟨"QuietChecksModel", "lineLength", "(I)I"⟩, 11) := ⟨⟨by decide +kernel, by decide +kernel⟩, List.mem_of_getElem? (i := 896) (by decide +kernel), List.mem_of_getElem? (i := 1132) (by decide +kernel), List.mem_of_getElem? (i := 1133) (by decide +kernel)⟩
theorem lw_p59 : lw_okq (⟨"QuietChecksModel", "entryPart", "(II)I"⟩, 11) := ⟨⟨by decide +kernel, by decide +kernel⟩, List.mem_of_getElem? (i := 896) (by decide +kernel), List.mem_of_getElem? (i := 1136) (by decide +kernel), List.mem_of_getElem? (i := 1137) (by decide +kernel)⟩
theorem lw_p60 : lw_okq (⟨"QuietChecksModel", "lineCharacter", "(II)I"⟩, 11) := ⟨⟨by decide +kernel, by decide +kernel⟩, List.mem_of_getElem? (i := 896) (by decide +kernel), List.mem_of_getElem? (i := 1159) (by decide +kernel), List.mem_of_getElem? (i := 1160) (by decide +kernel)⟩
theorem lw_p61 : lw_okq (⟨"QuietChecksModel", "overdueMany", "()I"⟩, 11) := ⟨⟨by decide +kernel, by decide +kernel⟩, List.mem_of_getElem? (i := 896) (by decide +kernel), List.mem_of_getElem? (i := 1168) (by decide +kernel), List.mem_of_getElem? (i := 1169) (by decide +kernel)⟩
theorem lw_p62 : lw_okq (⟨"QuietChecksModel", "overdueIn", "(II)I"⟩, 11) := ⟨⟨by decide +kernel, by decide +kernel⟩, List.mem_of_getElem? (i := 896) (by decide +kernel), List.mem_of_getElem? (i := 1184) (by decide +kernel), List.mem_of_getElem? (i := 1185) (by decide +kernel)⟩
theorem lw_p63 : lw_okq (⟨"QuietChecksModel", "findError", "()I"⟩, 11) := ⟨⟨by decide +kernel, by decide +kernel⟩, List.mem_of_getElem? (i := 896) (by decide +kernel), List.mem_of_getElem? (i := 1204) (by decide +kernel), List.mem_of_getElem? (i := 1205) (by decide +kernel)⟩
def lw_privs_4 : List (MethodName × Nat) := [(⟨"QuietChecksModel", "bestDue", "()I"⟩, 11), (⟨"QuietChecksModel", "age", "(I)I"⟩, 11), (⟨"QuietChecksModel", "sumOf", "(II)I"⟩, 11), (⟨"QuietChecksModel", "isDue", "(I)Z"⟩, 11), (⟨"QuietChecksModel", "takes", "(I)I"⟩, 11), (⟨"QuietChecksModel", "endsCheck", "()V"⟩, 11), (⟨"QuietChecksModel", "stops", "()V"⟩, 11), (⟨"QuietChecksModel", "ofSpan", "(II)I"⟩, 11), (⟨"QuietChecksModel", "entriesMany", "()I"⟩, 11), (⟨"QuietChecksModel", "isEntry", "(I)Z"⟩, 11), (⟨"QuietChecksModel", "lineLength", "(I)I"⟩, 11), (⟨"QuietChecksModel", "entryPart", "(II)I"⟩, 11), (⟨"QuietChecksModel", "lineCharacter", "(II)I"⟩, 11), (⟨"QuietChecksModel", "overdueMany", "()I"⟩, 11), (⟨"QuietChecksModel", "overdueIn", "(II)I"⟩, 11), (⟨"QuietChecksModel", "findError", "()I"⟩, 11)]
theorem lw_r4 : ∀ q ∈ lw_privs_4, lw_okq q := List.forall_mem_cons.mpr ⟨lw_p48, List.forall_mem_cons.mpr ⟨lw_p49, List.forall_mem_cons.mpr ⟨lw_p50, List.forall_mem_cons.mpr ⟨lw_p51, List.forall_mem_cons.mpr ⟨lw_p52, List.forall_mem_cons.mpr ⟨lw_p53, List.forall_mem_cons.mpr ⟨lw_p54, List.forall_mem_cons.mpr ⟨lw_p55, List.forall_mem_cons.mpr ⟨lw_p56, List.forall_mem_cons.mpr ⟨lw_p57, List.forall_mem_cons.mpr ⟨lw_p58, List.forall_mem_cons.mpr ⟨lw_p59, List.forall_mem_cons.mpr ⟨lw_p60, List.forall_mem_cons.mpr ⟨lw_p61, List.forall_mem_cons.mpr ⟨lw_p62, List.forall_mem_cons.mpr ⟨lw_p63, fun _ h => absurd h List.not_mem_nil⟩⟩⟩⟩⟩⟩⟩⟩⟩⟩⟩⟩⟩⟩⟩⟩
theorem lw_p64 : lw_okq (⟨"QuietChecksModel", "readsCommand", "()Z"⟩, 11) := ⟨⟨by decide +kernel, by decide +kernel⟩, List.mem_of_getElem? (i := 896) (by decide +kernel), List.mem_of_getElem? (i := 1208) (by decide +kernel), List.mem_of_getElem? (i := 1209) (by decide +kernel)⟩
theorem lw_p65 : lw_okq (⟨"QuietChecksModel", "character", "(I)I"⟩, 11) := ⟨⟨by decide +kernel, by decide +kernel⟩, List.mem_of_getElem? (i := 896) (by decide +kernel), List.mem_of_getElem? (i := 1212) (by decide +kernel), List.mem_of_getElem? (i := 1213) (by decide +kernel)⟩
theorem lw_p66 : lw_okq (⟨"QuietChecksModel", "readsWord", "(J)Z"⟩, 11) := ⟨⟨by decide +kernel, by decide +kernel⟩, List.mem_of_getElem? (i := 896) (by decide +kernel), List.mem_of_getElem? (i := 1217) (by decide +kernel), List.mem_of_getElem? (i := 1218) (by decide +kernel)⟩
theorem lw_p67 : lw_okq (⟨"QuietChecksModel", "isNext", "(I)Z"⟩, 11) := ⟨⟨by decide +kernel, by decide +kernel⟩, List.mem_of_getElem? (i := 896) (by decide +kernel), List.mem_of_getElem? (i := 1221) (by decide +kernel), List.mem_of_getElem? (i := 1222) (by decide +kernel)⟩
theorem lw_p68 : lw_okq (⟨"QuietChecksModel", "readsSpan", "()Z"⟩, 11) := ⟨⟨by decide +kernel, by decide +kernel⟩, List.mem_of_getElem? (i := 896) (by decide +kernel), List.mem_of_getElem? (i := 1225) (by decide +kernel), List.mem_of_getElem? (i := 1226) (by decide +kernel)⟩
theorem lw_p69 : lw_okq (⟨"QuietChecksModel", "readsDigit", "(II)Z"⟩, 11) := ⟨⟨by decide +kernel, by decide +kernel⟩, List.mem_of_getElem? (i := 896) (by decide +kernel), List.mem_of_getElem? (i := 1229) (by decide +kernel), List.mem_of_getElem? (i := 1230) (by decide +kernel)⟩
theorem lw_p70 : lw_okq (⟨"QuietChecksModel", "readsNumber", "()Z"⟩, 11) := ⟨⟨by decide +kernel, by decide +kernel⟩, List.mem_of_getElem? (i := 896) (by decide +kernel), List.mem_of_getElem? (i := 1233) (by decide +kernel), List.mem_of_getElem? (i := 1234) (by decide +kernel)⟩
theorem lw_p71 : lw_okq (⟨"QuietChecksModel", "readsWay", "()Z"⟩, 11) := ⟨⟨by decide +kernel, by decide +kernel⟩, List.mem_of_getElem? (i := 896) (by decide +kernel), List.mem_of_getElem? (i := 1241) (by decide +kernel), List.mem_of_getElem? (i := 1242) (by decide +kernel)⟩
theorem lw_p72 : lw_okq (⟨"QuietChecksModel", "whyNotDone", "()I"⟩, 11) := ⟨⟨by decide +kernel, by decide +kernel⟩, List.mem_of_getElem? (i := 896) (by decide +kernel), List.mem_of_getElem? (i := 1252) (by decide +kernel), List.mem_of_getElem? (i := 1253) (by decide +kernel)⟩
theorem lw_p73 : lw_okq (⟨"QuietChecksModel", "does", "()V"⟩, 11) := ⟨⟨by decide +kernel, by decide +kernel⟩, List.mem_of_getElem? (i := 896) (by decide +kernel), List.mem_of_getElem? (i := 1256) (by decide +kernel), List.mem_of_getElem? (i := 1257) (by decide +kernel)⟩
def lw_privs_5 : List (MethodName × Nat) := [(⟨"QuietChecksModel", "readsCommand", "()Z"⟩, 11), (⟨"QuietChecksModel", "character", "(I)I"⟩, 11), (⟨"QuietChecksModel", "readsWord", "(J)Z"⟩, 11), (⟨"QuietChecksModel", "isNext", "(I)Z"⟩, 11), (⟨"QuietChecksModel", "readsSpan", "()Z"⟩, 11), (⟨"QuietChecksModel", "readsDigit", "(II)Z"⟩, 11), (⟨"QuietChecksModel", "readsNumber", "()Z"⟩, 11), (⟨"QuietChecksModel", "readsWay", "()Z"⟩, 11), (⟨"QuietChecksModel", "whyNotDone", "()I"⟩, 11), (⟨"QuietChecksModel", "does", "()V"⟩, 11)]
theorem lw_r5 : ∀ q ∈ lw_privs_5, lw_okq q := List.forall_mem_cons.mpr ⟨lw_p64, List.forall_mem_cons.mpr ⟨lw_p65, List.forall_mem_cons.mpr ⟨lw_p66, List.forall_mem_cons.mpr ⟨lw_p67, List.forall_mem_cons.mpr ⟨lw_p68, List.forall_mem_cons.mpr ⟨lw_p69, List.forall_mem_cons.mpr ⟨lw_p70, List.forall_mem_cons.mpr ⟨lw_p71, List.forall_mem_cons.mpr ⟨lw_p72, List.forall_mem_cons.mpr ⟨lw_p73, fun _ h => absurd h List.not_mem_nil⟩⟩⟩⟩⟩⟩⟩⟩⟩⟩
def lw_privs : List (MethodName × Nat) := lw_privs_1 ++ (lw_privs_2 ++ (lw_privs_3 ++ (lw_privs_4 ++ (lw_privs_5))))
def lw_tbl : List Cond := k2_sels lw_privs ++ tables_1
theorem lw_privs_ok : ∀ q ∈ lw_privs, lw_okq q := by
  show ∀ q ∈ lw_privs_1 ++ (lw_privs_2 ++ (lw_privs_3 ++ (lw_privs_4 ++ (lw_privs_5)))), lw_okq q
  exact List.forall_mem_append.mpr ⟨lw_r1, List.forall_mem_append.mpr ⟨lw_r2, List.forall_mem_append.mpr ⟨lw_r3, List.forall_mem_append.mpr ⟨lw_r4, lw_r5⟩⟩⟩⟩
end
section
/-! ===== BEGIN words of one list among another's, by their places ===== -/
theorem goodIn_r {big : List Cond} (ws : List Cond) (ps : List Nat) (hp : ws = ps.filterMap (fun i => big[i]?)) (h : ws.all goodWord = true) : GoodIn big ws := by
  intro w hw
  have h1 := List.all_eq_true.mp h w hw
  rw [hp] at hw
  obtain ⟨i, -, hi⟩ := List.mem_filterMap.mp hw
  have hm : w ∈ big := by first | exact List.mem_of_getElem? hi | exact List.getElem?_mem hi
  exact ⟨hm, good_of_word h1⟩
theorem goodIn_app {big a b : List Cond} (ha : GoodIn big a) (hb : GoodIn big b) : GoodIn big (a ++ b) := fun w h => (List.mem_append.mp h).elim (ha w) (hb w)
theorem goodIn_ca {big a b : List Cond} {c : Cond} (ha : GoodIn big (c :: a)) (hb : GoodIn big b) : GoodIn big (c :: (a ++ b)) := fun w h => (List.mem_cons.mp h).elim (fun e => ha w (List.mem_cons.mpr (Or.inl e))) (fun h => (List.mem_append.mp h).elim (fun h => ha w (List.mem_cons.mpr (Or.inr h))) (hb w))
theorem goodIn_sub {big ws : List Cond} (hm : ∀ w ∈ ws, w ∈ big) (h : ws.all goodWord = true) : GoodIn big ws := fun w hw => ⟨hm w hw, good_of_word (List.all_eq_true.mp h w hw)⟩
/-! ===== END ===== -/

/-! ===== BEGIN printed: names, fields, word lists, decode rows ===== -/
def RX0 : String := "QuietChecks$Asked"
def TX0 : u_T := fun k => match k with
  | 0 => ("QuietChecks$Asked", "spans", "[I", true)
  | _ => ("QuietChecks$Asked", "size", "I", false)
def tyX0 : Nat → FieldType := fun k => match k with
  | 0 => .array .int
  | _ => .int
abbrev wsX00 : List Cond := u_ws RX0 TX0 2
theorem nmX0 : ∀ a, a < 2 → ∀ b, b < 2 → a ≠ b → (TX0 a).2.1 ≠ (TX0 b).2.1 := by decide +kernel
theorem tyX0_ok : ∀ k, k < 2 → parseFieldDescriptor (TX0 k).2.2.1 = some (tyX0 k) := by decide +kernel
abbrev cX0_init : ByteArray := prog_2_method_1_code
def yX0_init : MethodName := ⟨RX0, "<init>", "()V"⟩
abbrev cX0_copyFrom : ByteArray := prog_2_method_2_code
def yX0_copyFrom : MethodName := ⟨RX0, "copyFrom", "(LQuietChecks$Asked;)V"⟩
abbrev cX0_placeOf : ByteArray := prog_2_method_3_code
def yX0_placeOf : MethodName := ⟨RX0, "placeOf", "(I)I"⟩
abbrev cX0_append : ByteArray := prog_2_method_4_code
def yX0_append : MethodName := ⟨RX0, "append", "(I)Z"⟩
abbrev cX0_drop : ByteArray := prog_2_method_5_code
def yX0_drop : MethodName := ⟨RX0, "drop", "(I)Z"⟩
def RX1 : String := "QuietChecks$Disk"
def TX1 : u_T := fun k => match k with
  | 0 => ("QuietChecks$Disk", "settings", "[I", true)
  | 1 => ("QuietChecks$Disk", "stamps", "[I", true)
  | 2 => ("QuietChecks$Disk", "spots", "LQuietChecks$Spots;", true)
  | 3 => ("QuietChecks$Disk", "asked", "LQuietChecks$Asked;", true)
  | 4 => ("QuietChecks$Disk", "log", "LQuietChecks$Log;", true)
  | 5 => ("QuietChecks$Disk", "way", "I", false)
  | 6 => ("QuietChecks$Disk", "spares", "I", false)
  | 7 => ("QuietChecks$Disk", "tick", "I", false)
  | 8 => ("QuietChecks$Disk", "quietTicks", "I", false)
  | 9 => ("QuietChecks$Disk", "checkSpan", "I", false)
  | 10 => ("QuietChecks$Disk", "checkDone", "I", false)
  | 11 => ("QuietChecks$Disk", "checkTicks", "I", false)
  | 12 => ("QuietChecks$Disk", "rowStart", "I", false)
  | 13 => ("QuietChecks$Disk", "ended", "I", false)
  | 14 => ("QuietChecks$Disk", "pauses", "I", false)
  | 15 => ("QuietChecks$Disk", "replaced", "I", false)
  | _ => ("QuietChecks$Disk", "slowReads", "I", false)
def tyX1 : Nat → FieldType := fun k => match k with
  | 0 => .array .int
  | 1 => .array .int
  | 2 => .object "QuietChecks$Spots"
  | 3 => .object "QuietChecks$Asked"
  | 4 => .object "QuietChecks$Log"
  | 5 => .int
  | 6 => .int
  | 7 => .int
  | 8 => .int
  | 9 => .int
  | 10 => .int
  | 11 => .int
  | 12 => .int
  | 13 => .int
  | 14 => .int
  | 15 => .int
  | _ => .int
abbrev wsX10 : List Cond := u_ws RX1 TX1 17
theorem nmX1 : ∀ a, a < 17 → ∀ b, b < 17 → a ≠ b → (TX1 a).2.1 ≠ (TX1 b).2.1 := by decide +kernel
theorem tyX1_ok : ∀ k, k < 17 → parseFieldDescriptor (TX1 k).2.2.1 = some (tyX1 k) := by decide +kernel
abbrev cX1_init : ByteArray := prog_3_method_1_code
def yX1_init : MethodName := ⟨RX1, "<init>", "()V"⟩
abbrev cX1_copyFrom : ByteArray := prog_3_method_2_code
def yX1_copyFrom : MethodName := ⟨RX1, "copyFrom", "(LQuietChecks$Disk;)V"⟩
abbrev cX1_changeSetting : ByteArray := prog_3_method_3_code
def yX1_changeSetting : MethodName := ⟨RX1, "changeSetting", "(II)I"⟩
abbrev cX1_changeWay : ByteArray := prog_3_method_4_code
def yX1_changeWay : MethodName := ⟨RX1, "changeWay", "(I)I"⟩
abbrev cX1_takeSpares : ByteArray := prog_3_method_5_code
def yX1_takeSpares : MethodName := ⟨RX1, "takeSpares", "(I)I"⟩
abbrev cX1_takeSpot : ByteArray := prog_3_method_6_code
def yX1_takeSpot : MethodName := ⟨RX1, "takeSpot", "(II)I"⟩
abbrev cX1_askByHand : ByteArray := prog_3_method_7_code
def yX1_askByHand : MethodName := ⟨RX1, "askByHand", "(I)I"⟩
abbrev cX1_withdraw : ByteArray := prog_3_method_8_code
def yX1_withdraw : MethodName := ⟨RX1, "withdraw", "(I)I"⟩
abbrev cX1_hostReads : ByteArray := prog_3_method_9_code
def yX1_hostReads : MethodName := ⟨RX1, "hostReads", "(II)I"⟩
abbrev cX1_passQuietTicks : ByteArray := prog_3_method_10_code
def yX1_passQuietTicks : MethodName := ⟨RX1, "passQuietTicks", "(I)I"⟩
abbrev cX1_passQuietTick : ByteArray := prog_3_method_11_code
def yX1_passQuietTick : MethodName := ⟨RX1, "passQuietTick", "()I"⟩
abbrev cX1_dropCheck : ByteArray := prog_3_method_12_code
def yX1_dropCheck : MethodName := ⟨RX1, "dropCheck", "()I"⟩
abbrev cX1_chooseSpan : ByteArray := prog_3_method_13_code
def yX1_chooseSpan : MethodName := ⟨RX1, "chooseSpan", "()I"⟩
abbrev cX1_rankOf : ByteArray := prog_3_method_14_code
def yX1_rankOf : MethodName := ⟨RX1, "rankOf", "(I)I"⟩
abbrev cX1_beginCheck : ByteArray := prog_3_method_15_code
def yX1_beginCheck : MethodName := ⟨RX1, "beginCheck", "(I)V"⟩
abbrev cX1_pauseCheck : ByteArray := prog_3_method_16_code
def yX1_pauseCheck : MethodName := ⟨RX1, "pauseCheck", "()V"⟩
abbrev cX1_clearCheck : ByteArray := prog_3_method_17_code
def yX1_clearCheck : MethodName := ⟨RX1, "clearCheck", "()V"⟩
abbrev cX1_endCheck : ByteArray := prog_3_method_18_code
def yX1_endCheck : MethodName := ⟨RX1, "endCheck", "(I)V"⟩
abbrev cX1_lookAtSpot : ByteArray := prog_3_method_19_code
def yX1_lookAtSpot : MethodName := ⟨RX1, "lookAtSpot", "(III)V"⟩
abbrev cX1_overdueSpans : ByteArray := prog_3_method_20_code
def yX1_overdueSpans : MethodName := ⟨RX1, "overdueSpans", "()I"⟩
abbrev cX1_ageOf : ByteArray := prog_3_method_21_code
def yX1_ageOf : MethodName := ⟨RX1, "ageOf", "(I)I"⟩
abbrev cX1_isOverdue : ByteArray := prog_3_method_22_code
def yX1_isOverdue : MethodName := ⟨RX1, "isOverdue", "(I)Z"⟩
abbrev cX1_isDue : ByteArray := prog_3_method_23_code
def yX1_isDue : MethodName := ⟨RX1, "isDue", "(I)Z"⟩
abbrev cX1_ticksOfCheck : ByteArray := prog_3_method_24_code
def yX1_ticksOfCheck : MethodName := ⟨RX1, "ticksOfCheck", "(I)I"⟩
abbrev cX1_numberOfDisk : ByteArray := prog_3_method_25_code
def yX1_numberOfDisk : MethodName := ⟨RX1, "numberOfDisk", "(I)I"⟩
abbrev cX1_numberOfSpan : ByteArray := prog_3_method_26_code
def yX1_numberOfSpan : MethodName := ⟨RX1, "numberOfSpan", "(II)I"⟩
def RX2 : String := "QuietChecks$History"
def TX2 : u_T := fun k => match k with
  | 0 => ("QuietChecks$History", "rows", "[LQuietChecks$Disk;", true)
  | _ => ("QuietChecks$History", "size", "I", false)
def tyX2 : Nat → FieldType := fun k => match k with
  | 0 => .array (.object "QuietChecks$Disk")
  | _ => .int
abbrev wsX20 : List Cond := u_ws RX2 TX2 2
theorem nmX2 : ∀ a, a < 2 → ∀ b, b < 2 → a ≠ b → (TX2 a).2.1 ≠ (TX2 b).2.1 := by decide +kernel
theorem tyX2_ok : ∀ k, k < 2 → parseFieldDescriptor (TX2 k).2.2.1 = some (tyX2 k) := by decide +kernel
abbrev cX2_init : ByteArray := prog_4_method_1_code
def yX2_init : MethodName := ⟨RX2, "<init>", "()V"⟩
abbrev cX2_draft : ByteArray := prog_4_method_2_code
def yX2_draft : MethodName := ⟨RX2, "draft", "(LQuietChecks$Disk;)V"⟩
abbrev cX2_keep : ByteArray := prog_4_method_3_code
def yX2_keep : MethodName := ⟨RX2, "keep", "(I)I"⟩
abbrev cX2_restore : ByteArray := prog_4_method_4_code
def yX2_restore : MethodName := ⟨RX2, "restore", "(LQuietChecks$Disk;)I"⟩
abbrev cX2_discardOldest : ByteArray := prog_4_method_5_code
def yX2_discardOldest : MethodName := ⟨RX2, "discardOldest", "()V"⟩
abbrev cX2_rowAt : ByteArray := prog_4_method_6_code
def yX2_rowAt : MethodName := ⟨RX2, "rowAt", "(I)LQuietChecks$Disk;"⟩
def RX3 : String := "QuietChecks$Log"
def TX3 : u_T := fun k => match k with
  | 0 => ("QuietChecks$Log", "ticks", "[I", true)
  | 1 => ("QuietChecks$Log", "kinds", "[I", true)
  | 2 => ("QuietChecks$Log", "spans", "[I", true)
  | 3 => ("QuietChecks$Log", "next", "I", false)
  | _ => ("QuietChecks$Log", "size", "I", false)
def tyX3 : Nat → FieldType := fun k => match k with
  | 0 => .array .int
  | 1 => .array .int
  | 2 => .array .int
  | 3 => .int
  | _ => .int
abbrev wsX30 : List Cond := u_ws RX3 TX3 5
theorem nmX3 : ∀ a, a < 5 → ∀ b, b < 5 → a ≠ b → (TX3 a).2.1 ≠ (TX3 b).2.1 := by decide +kernel
theorem tyX3_ok : ∀ k, k < 5 → parseFieldDescriptor (TX3 k).2.2.1 = some (tyX3 k) := by decide +kernel
abbrev cX3_init : ByteArray := prog_5_method_1_code
def yX3_init : MethodName := ⟨RX3, "<init>", "()V"⟩
abbrev cX3_copyFrom : ByteArray := prog_5_method_2_code
def yX3_copyFrom : MethodName := ⟨RX3, "copyFrom", "(LQuietChecks$Log;)V"⟩
abbrev cX3_append : ByteArray := prog_5_method_3_code
def yX3_append : MethodName := ⟨RX3, "append", "(III)V"⟩
abbrev cX3_has : ByteArray := prog_5_method_4_code
def yX3_has : MethodName := ⟨RX3, "has", "(I)Z"⟩
abbrev cX3_tickAt : ByteArray := prog_5_method_5_code
def yX3_tickAt : MethodName := ⟨RX3, "tickAt", "(I)I"⟩
abbrev cX3_kindAt : ByteArray := prog_5_method_6_code
def yX3_kindAt : MethodName := ⟨RX3, "kindAt", "(I)I"⟩
abbrev cX3_spanAt : ByteArray := prog_5_method_7_code
def yX3_spanAt : MethodName := ⟨RX3, "spanAt", "(I)I"⟩
abbrev cX3_placeOf : ByteArray := prog_5_method_8_code
def yX3_placeOf : MethodName := ⟨RX3, "placeOf", "(I)I"⟩
def RX4 : String := "QuietChecks$Plan"
def TX4 : u_T := fun k => match k with
  | 0 => ("QuietChecks$Plan", "text", "[C", true)
  | 1 => ("QuietChecks$Plan", "length", "I", false)
  | 2 => ("QuietChecks$Plan", "at", "I", false)
  | 3 => ("QuietChecks$Plan", "kinds", "[I", true)
  | 4 => ("QuietChecks$Plan", "firsts", "[I", true)
  | 5 => ("QuietChecks$Plan", "seconds", "[I", true)
  | 6 => ("QuietChecks$Plan", "commands", "I", false)
  | _ => ("QuietChecks$Plan", "value", "I", false)
def tyX4 : Nat → FieldType := fun k => match k with
  | 0 => .array .char
  | 1 => .int
  | 2 => .int
  | 3 => .array .int
  | 4 => .array .int
  | 5 => .array .int
  | 6 => .int
  | _ => .int
abbrev wsX40 : List Cond := u_ws RX4 TX4 8
theorem nmX4 : ∀ a, a < 8 → ∀ b, b < 8 → a ≠ b → (TX4 a).2.1 ≠ (TX4 b).2.1 := by decide +kernel
theorem tyX4_ok : ∀ k, k < 8 → parseFieldDescriptor (TX4 k).2.2.1 = some (tyX4 k) := by decide +kernel
abbrev cX4_init : ByteArray := prog_6_method_1_code
def yX4_init : MethodName := ⟨RX4, "<init>", "()V"⟩
abbrev cX4_append : ByteArray := prog_6_method_2_code
def yX4_append : MethodName := ⟨RX4, "append", "(I)I"⟩
abbrev cX4_clear : ByteArray := prog_6_method_3_code
def yX4_clear : MethodName := ⟨RX4, "clear", "()I"⟩
abbrev cX4_findError : ByteArray := prog_6_method_4_code
def yX4_findError : MethodName := ⟨RX4, "findError", "()I"⟩
abbrev cX4_takeCommand : ByteArray := prog_6_method_5_code
def yX4_takeCommand : MethodName := ⟨RX4, "takeCommand", "(I)Z"⟩
abbrev cX4_note : ByteArray := prog_6_method_6_code
def yX4_note : MethodName := ⟨RX4, "note", "(II)Z"⟩
abbrev cX4_noteSecond : ByteArray := prog_6_method_7_code
def yX4_noteSecond : MethodName := ⟨RX4, "noteSecond", "(I)Z"⟩
abbrev cX4_sign : ByteArray := prog_6_method_8_code
def yX4_sign : MethodName := ⟨RX4, "sign", "()C"⟩
abbrev cX4_takeSign : ByteArray := prog_6_method_9_code
def yX4_takeSign : MethodName := ⟨RX4, "takeSign", "(C)Z"⟩
abbrev cX4_takeWord : ByteArray := prog_6_method_10_code
def yX4_takeWord : MethodName := ⟨RX4, "takeWord", "(Ljava/lang/String;)Z"⟩
abbrev cX4_takeDigit : ByteArray := prog_6_method_11_code
def yX4_takeDigit : MethodName := ⟨RX4, "takeDigit", "(CC)Z"⟩
abbrev cX4_takeSpan : ByteArray := prog_6_method_12_code
def yX4_takeSpan : MethodName := ⟨RX4, "takeSpan", "()Z"⟩
abbrev cX4_takeNumber : ByteArray := prog_6_method_13_code
def yX4_takeNumber : MethodName := ⟨RX4, "takeNumber", "()Z"⟩
abbrev cX4_takeWay : ByteArray := prog_6_method_14_code
def yX4_takeWay : MethodName := ⟨RX4, "takeWay", "()Z"⟩
def RX5 : String := "QuietChecks$Spots"
def TX5 : u_T := fun k => match k with
  | 0 => ("QuietChecks$Spots", "spans", "[I", true)
  | 1 => ("QuietChecks$Spots", "tries", "[I", true)
  | _ => ("QuietChecks$Spots", "size", "I", false)
def tyX5 : Nat → FieldType := fun k => match k with
  | 0 => .array .int
  | 1 => .array .int
  | _ => .int
abbrev wsX50 : List Cond := u_ws RX5 TX5 3
theorem nmX5 : ∀ a, a < 3 → ∀ b, b < 3 → a ≠ b → (TX5 a).2.1 ≠ (TX5 b).2.1 := by decide +kernel
theorem tyX5_ok : ∀ k, k < 3 → parseFieldDescriptor (TX5 k).2.2.1 = some (tyX5 k) := by decide +kernel
abbrev cX5_init : ByteArray := prog_7_method_1_code
def yX5_init : MethodName := ⟨RX5, "<init>", "()V"⟩
abbrev cX5_copyFrom : ByteArray := prog_7_method_2_code
def yX5_copyFrom : MethodName := ⟨RX5, "copyFrom", "(LQuietChecks$Spots;)V"⟩
abbrev cX5_append : ByteArray := prog_7_method_3_code
def yX5_append : MethodName := ⟨RX5, "append", "(II)Z"⟩
abbrev cX5_sizeOf : ByteArray := prog_7_method_4_code
def yX5_sizeOf : MethodName := ⟨RX5, "sizeOf", "(I)I"⟩
abbrev cX5_sumOf : ByteArray := prog_7_method_5_code
def yX5_sumOf : MethodName := ⟨RX5, "sumOf", "(II)I"⟩
abbrev cX5_triesAt : ByteArray := prog_7_method_6_code
def yX5_triesAt : MethodName := ⟨RX5, "triesAt", "(II)I"⟩
abbrev cX5_hasWeak : ByteArray := prog_7_method_7_code
def yX5_hasWeak : MethodName := ⟨RX5, "hasWeak", "(II)Z"⟩
def RX6 : String := "QuietChecks"
def TX6 : u_T := fun k => match k with
  | 0 => ("QuietChecks", "disk", "LQuietChecks$Disk;", true)
  | 1 => ("QuietChecks", "trial", "LQuietChecks$Disk;", true)
  | 2 => ("QuietChecks", "history", "LQuietChecks$History;", true)
  | 3 => ("QuietChecks", "plan", "LQuietChecks$Plan;", true)
  | _ => ("QuietChecks", "line", "Ljava/lang/StringBuilder;", true)
def tyX6 : Nat → FieldType := fun k => match k with
  | 0 => .object "QuietChecks$Disk"
  | 1 => .object "QuietChecks$Disk"
  | 2 => .object "QuietChecks$History"
  | 3 => .object "QuietChecks$Plan"
  | _ => .object "java/lang/StringBuilder"
abbrev wsX60 : List Cond := u_ws RX6 TX6 5
theorem nmX6 : ∀ a, a < 5 → ∀ b, b < 5 → a ≠ b → (TX6 a).2.1 ≠ (TX6 b).2.1 := by decide +kernel
theorem tyX6_ok : ∀ k, k < 5 → parseFieldDescriptor (TX6 k).2.2.1 = some (tyX6 k) := by decide +kernel
abbrev cX6_init : ByteArray := prog_1_method_1_code
def yX6_init : MethodName := ⟨RX6, "<init>", "()V"⟩
abbrev cX6_set : ByteArray := prog_1_method_2_code
def yX6_set : MethodName := ⟨RX6, "set", "(II)I"⟩
abbrev cX6_setWay : ByteArray := prog_1_method_3_code
def yX6_setWay : MethodName := ⟨RX6, "setWay", "(I)I"⟩
abbrev cX6_addSpares : ByteArray := prog_1_method_4_code
def yX6_addSpares : MethodName := ⟨RX6, "addSpares", "(I)I"⟩
abbrev cX6_spot : ByteArray := prog_1_method_5_code
def yX6_spot : MethodName := ⟨RX6, "spot", "(II)I"⟩
abbrev cX6_ask : ByteArray := prog_1_method_6_code
def yX6_ask : MethodName := ⟨RX6, "ask", "(I)I"⟩
abbrev cX6_unask : ByteArray := prog_1_method_7_code
def yX6_unask : MethodName := ⟨RX6, "unask", "(I)I"⟩
abbrev cX6_read : ByteArray := prog_1_method_8_code
def yX6_read : MethodName := ⟨RX6, "read", "(II)I"⟩
abbrev cX6_quiet : ByteArray := prog_1_method_9_code
def yX6_quiet : MethodName := ⟨RX6, "quiet", "(I)I"⟩
abbrev cX6_giveUp : ByteArray := prog_1_method_10_code
def yX6_giveUp : MethodName := ⟨RX6, "giveUp", "()I"⟩
abbrev cX6_count : ByteArray := prog_1_method_11_code
def yX6_count : MethodName := ⟨RX6, "count", "(I)I"⟩
abbrev cX6_setting : ByteArray := prog_1_method_12_code
def yX6_setting : MethodName := ⟨RX6, "setting", "(I)I"⟩
abbrev cX6_span : ByteArray := prog_1_method_13_code
def yX6_span : MethodName := ⟨RX6, "span", "(II)I"⟩
abbrev cX6_tries : ByteArray := prog_1_method_14_code
def yX6_tries : MethodName := ⟨RX6, "tries", "(II)I"⟩
abbrev cX6_entries : ByteArray := prog_1_method_15_code
def yX6_entries : MethodName := ⟨RX6, "entries", "()I"⟩
abbrev cX6_entry : ByteArray := prog_1_method_16_code
def yX6_entry : MethodName := ⟨RX6, "entry", "(II)I"⟩
abbrev cX6_lineAt : ByteArray := prog_1_method_17_code
def yX6_lineAt : MethodName := ⟨RX6, "lineAt", "(II)I"⟩
abbrev cX6_overdue : ByteArray := prog_1_method_18_code
def yX6_overdue : MethodName := ⟨RX6, "overdue", "()I"⟩
abbrev cX6_nextCheck : ByteArray := prog_1_method_19_code
def yX6_nextCheck : MethodName := ⟨RX6, "nextCheck", "()I"⟩
abbrev cX6_checkedIn : ByteArray := prog_1_method_20_code
def yX6_checkedIn : MethodName := ⟨RX6, "checkedIn", "(I)I"⟩
abbrev cX6_ifQuiet : ByteArray := prog_1_method_21_code
def yX6_ifQuiet : MethodName := ⟨RX6, "ifQuiet", "(I)I"⟩
abbrev cX6_bestWay : ByteArray := prog_1_method_22_code
def yX6_bestWay : MethodName := ⟨RX6, "bestWay", "(I)I"⟩
abbrev cX6_type : ByteArray := prog_1_method_23_code
def yX6_type : MethodName := ⟨RX6, "type", "(I)I"⟩
abbrev cX6_clearText : ByteArray := prog_1_method_24_code
def yX6_clearText : MethodName := ⟨RX6, "clearText", "()I"⟩
abbrev cX6_syntaxError : ByteArray := prog_1_method_25_code
def yX6_syntaxError : MethodName := ⟨RX6, "syntaxError", "()I"⟩
abbrev cX6_carryOut : ByteArray := prog_1_method_26_code
def yX6_carryOut : MethodName := ⟨RX6, "carryOut", "()I"⟩
abbrev cX6_undo : ByteArray := prog_1_method_27_code
def yX6_undo : MethodName := ⟨RX6, "undo", "()I"⟩
abbrev cX6_digest : ByteArray := prog_1_method_28_code
def yX6_digest : MethodName := ⟨RX6, "digest", "()J"⟩
abbrev cX6_hashSpan : ByteArray := prog_1_method_29_code
def yX6_hashSpan : MethodName := ⟨RX6, "hashSpan", "(JI)J"⟩
abbrev cX6_hashEntry : ByteArray := prog_1_method_30_code
def yX6_hashEntry : MethodName := ⟨RX6, "hashEntry", "(JI)J"⟩
abbrev cX6_writeLine : ByteArray := prog_1_method_31_code
def yX6_writeLine : MethodName := ⟨RX6, "writeLine", "(I)V"⟩
abbrev cX6_overdueAfter : ByteArray := prog_1_method_32_code
def yX6_overdueAfter : MethodName := ⟨RX6, "overdueAfter", "(II)I"⟩
abbrev cX6_doCommand : ByteArray := prog_1_method_33_code
def yX6_doCommand : MethodName := ⟨RX6, "doCommand", "(I)I"⟩
abbrev cX6_isSpan : ByteArray := prog_1_method_34_code
def yX6_isSpan : MethodName := ⟨RX6, "isSpan", "(I)Z"⟩
abbrev cX6_isSetting : ByteArray := prog_1_method_35_code
def yX6_isSetting : MethodName := ⟨RX6, "isSetting", "(I)Z"⟩
abbrev cX6_wordOf : ByteArray := prog_1_method_36_code
def yX6_wordOf : MethodName := ⟨RX6, "wordOf", "(I)Ljava/lang/String;"⟩
def RX7 : String := "QuietChecksModel"
def TX7 : u_T := fun k => match k with
  | 0 => ("QuietChecksModel", "state", "[I", true)
  | 1 => ("QuietChecksModel", "kept", "[I", true)
  | 2 => ("QuietChecksModel", "history", "[I", true)
  | 3 => ("QuietChecksModel", "recorded", "I", false)
  | 4 => ("QuietChecksModel", "text", "[I", true)
  | 5 => ("QuietChecksModel", "textLength", "I", false)
  | 6 => ("QuietChecksModel", "at", "I", false)
  | 7 => ("QuietChecksModel", "command", "I", false)
  | 8 => ("QuietChecksModel", "one", "I", false)
  | 9 => ("QuietChecksModel", "two", "I", false)
  | _ => ("QuietChecksModel", "number", "I", false)
def tyX7 : Nat → FieldType := fun k => match k with
  | 0 => .array .int
  | 1 => .array .int
  | 2 => .array .int
  | 3 => .int
  | 4 => .array .int
  | 5 => .int
  | 6 => .int
  | 7 => .int
  | 8 => .int
  | 9 => .int
  | _ => .int
abbrev wsX70 : List Cond := u_ws RX7 TX7 11
theorem nmX7 : ∀ a, a < 11 → ∀ b, b < 11 → a ≠ b → (TX7 a).2.1 ≠ (TX7 b).2.1 := by decide +kernel
theorem tyX7_ok : ∀ k, k < 11 → parseFieldDescriptor (TX7 k).2.2.1 = some (tyX7 k) := by decide +kernel
abbrev cX7_init : ByteArray := prog_9_method_1_code
def yX7_init : MethodName := ⟨RX7, "<init>", "()V"⟩
abbrev cX7_within : ByteArray := prog_9_method_3_code
def yX7_within : MethodName := ⟨RX7, "within", "(III)Z"⟩
abbrev cX7_copies : ByteArray := prog_9_method_4_code
def yX7_copies : MethodName := ⟨RX7, "copies", "([II[II)V"⟩
abbrev cX7_record : ByteArray := prog_9_method_5_code
def yX7_record : MethodName := ⟨RX7, "record", "()V"⟩
abbrev cX7_isSpan : ByteArray := prog_9_method_6_code
def yX7_isSpan : MethodName := ⟨RX7, "isSpan", "(I)Z"⟩
abbrev cX7_logs : ByteArray := prog_9_method_7_code
def yX7_logs : MethodName := ⟨RX7, "logs", "(II)V"⟩
abbrev cX7_entriesMany : ByteArray := prog_9_method_8_code
def yX7_entriesMany : MethodName := ⟨RX7, "entriesMany", "()I"⟩
abbrev cX7_entryPart : ByteArray := prog_9_method_9_code
def yX7_entryPart : MethodName := ⟨RX7, "entryPart", "(II)I"⟩
abbrev cX7_word : ByteArray := prog_9_method_10_code
def yX7_word : MethodName := ⟨RX7, "word", "(I)J"⟩
abbrev cX7_digits : ByteArray := prog_9_method_11_code
def yX7_digits : MethodName := ⟨RX7, "digits", "(I)I"⟩
abbrev cX7_letters : ByteArray := prog_9_method_12_code
def yX7_letters : MethodName := ⟨RX7, "letters", "(I)I"⟩
abbrev cX7_lineLength : ByteArray := prog_9_method_13_code
def yX7_lineLength : MethodName := ⟨RX7, "lineLength", "(I)I"⟩
abbrev cX7_lineCharacter : ByteArray := prog_9_method_14_code
def yX7_lineCharacter : MethodName := ⟨RX7, "lineCharacter", "(II)I"⟩
abbrev cX7_spotSpan : ByteArray := prog_9_method_15_code
def yX7_spotSpan : MethodName := ⟨RX7, "spotSpan", "(I)I"⟩
abbrev cX7_spotTries : ByteArray := prog_9_method_16_code
def yX7_spotTries : MethodName := ⟨RX7, "spotTries", "(I)I"⟩
abbrev cX7_age : ByteArray := prog_9_method_17_code
def yX7_age : MethodName := ⟨RX7, "age", "(I)I"⟩
abbrev cX7_isDue : ByteArray := prog_9_method_18_code
def yX7_isDue : MethodName := ⟨RX7, "isDue", "(I)Z"⟩
abbrev cX7_sumOf : ByteArray := prog_9_method_19_code
def yX7_sumOf : MethodName := ⟨RX7, "sumOf", "(II)I"⟩
abbrev cX7_takes : ByteArray := prog_9_method_20_code
def yX7_takes : MethodName := ⟨RX7, "takes", "(I)I"⟩
abbrev cX7_placeOf : ByteArray := prog_9_method_21_code
def yX7_placeOf : MethodName := ⟨RX7, "placeOf", "(I)I"⟩
abbrev cX7_takesOut : ByteArray := prog_9_method_22_code
def yX7_takesOut : MethodName := ⟨RX7, "takesOut", "(I)V"⟩
abbrev cX7_bestDue : ByteArray := prog_9_method_23_code
def yX7_bestDue : MethodName := ⟨RX7, "bestDue", "()I"⟩
abbrev cX7_nextSpan : ByteArray := prog_9_method_24_code
def yX7_nextSpan : MethodName := ⟨RX7, "nextSpan", "()I"⟩
abbrev cX7_begins : ByteArray := prog_9_method_25_code
def yX7_begins : MethodName := ⟨RX7, "begins", "()V"⟩
abbrev cX7_stops : ByteArray := prog_9_method_26_code
def yX7_stops : MethodName := ⟨RX7, "stops", "()V"⟩
abbrev cX7_endsCheck : ByteArray := prog_9_method_27_code
def yX7_endsCheck : MethodName := ⟨RX7, "endsCheck", "()V"⟩
abbrev cX7_passesTick : ByteArray := prog_9_method_28_code
def yX7_passesTick : MethodName := ⟨RX7, "passesTick", "()I"⟩
abbrev cX7_passes : ByteArray := prog_9_method_29_code
def yX7_passes : MethodName := ⟨RX7, "passes", "(I)I"⟩
abbrev cX7_isSetting : ByteArray := prog_9_method_30_code
def yX7_isSetting : MethodName := ⟨RX7, "isSetting", "(I)Z"⟩
abbrev cX7_fits : ByteArray := prog_9_method_31_code
def yX7_fits : MethodName := ⟨RX7, "fits", "(II)Z"⟩
abbrev cX7_sets : ByteArray := prog_9_method_32_code
def yX7_sets : MethodName := ⟨RX7, "sets", "(II)I"⟩
abbrev cX7_set : ByteArray := prog_9_method_33_code
def yX7_set : MethodName := ⟨RX7, "set", "(II)I"⟩
abbrev cX7_setWay : ByteArray := prog_9_method_34_code
def yX7_setWay : MethodName := ⟨RX7, "setWay", "(I)I"⟩
abbrev cX7_addSpares : ByteArray := prog_9_method_35_code
def yX7_addSpares : MethodName := ⟨RX7, "addSpares", "(I)I"⟩
abbrev cX7_spotsMany : ByteArray := prog_9_method_36_code
def yX7_spotsMany : MethodName := ⟨RX7, "spotsMany", "(I)I"⟩
abbrev cX7_whyNotSpot : ByteArray := prog_9_method_37_code
def yX7_whyNotSpot : MethodName := ⟨RX7, "whyNotSpot", "(II)I"⟩
abbrev cX7_adds : ByteArray := prog_9_method_38_code
def yX7_adds : MethodName := ⟨RX7, "adds", "(II)I"⟩
abbrev cX7_spot : ByteArray := prog_9_method_39_code
def yX7_spot : MethodName := ⟨RX7, "spot", "(II)I"⟩
abbrev cX7_whyNotAsked : ByteArray := prog_9_method_40_code
def yX7_whyNotAsked : MethodName := ⟨RX7, "whyNotAsked", "(I)I"⟩
abbrev cX7_asks : ByteArray := prog_9_method_41_code
def yX7_asks : MethodName := ⟨RX7, "asks", "(I)I"⟩
abbrev cX7_ask : ByteArray := prog_9_method_42_code
def yX7_ask : MethodName := ⟨RX7, "ask", "(I)I"⟩
abbrev cX7_unask : ByteArray := prog_9_method_43_code
def yX7_unask : MethodName := ⟨RX7, "unask", "(I)I"⟩
abbrev cX7_whyNotRead : ByteArray := prog_9_method_44_code
def yX7_whyNotRead : MethodName := ⟨RX7, "whyNotRead", "(II)I"⟩
abbrev cX7_isSlow : ByteArray := prog_9_method_45_code
def yX7_isSlow : MethodName := ⟨RX7, "isSlow", "(I)Z"⟩
abbrev cX7_reads : ByteArray := prog_9_method_46_code
def yX7_reads : MethodName := ⟨RX7, "reads", "(II)I"⟩
abbrev cX7_read : ByteArray := prog_9_method_47_code
def yX7_read : MethodName := ⟨RX7, "read", "(II)I"⟩
abbrev cX7_whyNotQuiet : ByteArray := prog_9_method_48_code
def yX7_whyNotQuiet : MethodName := ⟨RX7, "whyNotQuiet", "(I)I"⟩
abbrev cX7_quiet : ByteArray := prog_9_method_49_code
def yX7_quiet : MethodName := ⟨RX7, "quiet", "(I)I"⟩
abbrev cX7_giveUp : ByteArray := prog_9_method_50_code
def yX7_giveUp : MethodName := ⟨RX7, "giveUp", "()I"⟩
abbrev cX7_count : ByteArray := prog_9_method_51_code
def yX7_count : MethodName := ⟨RX7, "count", "(I)I"⟩
abbrev cX7_setting : ByteArray := prog_9_method_52_code
def yX7_setting : MethodName := ⟨RX7, "setting", "(I)I"⟩
abbrev cX7_ofSpan : ByteArray := prog_9_method_53_code
def yX7_ofSpan : MethodName := ⟨RX7, "ofSpan", "(II)I"⟩
abbrev cX7_span : ByteArray := prog_9_method_54_code
def yX7_span : MethodName := ⟨RX7, "span", "(II)I"⟩
abbrev cX7_tries : ByteArray := prog_9_method_55_code
def yX7_tries : MethodName := ⟨RX7, "tries", "(II)I"⟩
abbrev cX7_entries : ByteArray := prog_9_method_56_code
def yX7_entries : MethodName := ⟨RX7, "entries", "()I"⟩
abbrev cX7_isEntry : ByteArray := prog_9_method_57_code
def yX7_isEntry : MethodName := ⟨RX7, "isEntry", "(I)Z"⟩
abbrev cX7_entry : ByteArray := prog_9_method_58_code
def yX7_entry : MethodName := ⟨RX7, "entry", "(II)I"⟩
abbrev cX7_lineAt : ByteArray := prog_9_method_59_code
def yX7_lineAt : MethodName := ⟨RX7, "lineAt", "(II)I"⟩
abbrev cX7_overdueMany : ByteArray := prog_9_method_60_code
def yX7_overdueMany : MethodName := ⟨RX7, "overdueMany", "()I"⟩
abbrev cX7_overdue : ByteArray := prog_9_method_61_code
def yX7_overdue : MethodName := ⟨RX7, "overdue", "()I"⟩
abbrev cX7_nextCheck : ByteArray := prog_9_method_62_code
def yX7_nextCheck : MethodName := ⟨RX7, "nextCheck", "()I"⟩
abbrev cX7_checkedIn : ByteArray := prog_9_method_63_code
def yX7_checkedIn : MethodName := ⟨RX7, "checkedIn", "(I)I"⟩
abbrev cX7_overdueIn : ByteArray := prog_9_method_64_code
def yX7_overdueIn : MethodName := ⟨RX7, "overdueIn", "(II)I"⟩
abbrev cX7_ifQuiet : ByteArray := prog_9_method_65_code
def yX7_ifQuiet : MethodName := ⟨RX7, "ifQuiet", "(I)I"⟩
abbrev cX7_bestWay : ByteArray := prog_9_method_66_code
def yX7_bestWay : MethodName := ⟨RX7, "bestWay", "(I)I"⟩
abbrev cX7_type : ByteArray := prog_9_method_67_code
def yX7_type : MethodName := ⟨RX7, "type", "(I)I"⟩
abbrev cX7_clearText : ByteArray := prog_9_method_68_code
def yX7_clearText : MethodName := ⟨RX7, "clearText", "()I"⟩
abbrev cX7_character : ByteArray := prog_9_method_69_code
def yX7_character : MethodName := ⟨RX7, "character", "(I)I"⟩
abbrev cX7_isNext : ByteArray := prog_9_method_70_code
def yX7_isNext : MethodName := ⟨RX7, "isNext", "(I)Z"⟩
abbrev cX7_readsWord : ByteArray := prog_9_method_71_code
def yX7_readsWord : MethodName := ⟨RX7, "readsWord", "(J)Z"⟩
abbrev cX7_readsNumber : ByteArray := prog_9_method_72_code
def yX7_readsNumber : MethodName := ⟨RX7, "readsNumber", "()Z"⟩
abbrev cX7_readsDigit : ByteArray := prog_9_method_73_code
def yX7_readsDigit : MethodName := ⟨RX7, "readsDigit", "(II)Z"⟩
abbrev cX7_readsSpan : ByteArray := prog_9_method_74_code
def yX7_readsSpan : MethodName := ⟨RX7, "readsSpan", "()Z"⟩
abbrev cX7_readsWay : ByteArray := prog_9_method_75_code
def yX7_readsWay : MethodName := ⟨RX7, "readsWay", "()Z"⟩
abbrev cX7_readsCommand : ByteArray := prog_9_method_76_code
def yX7_readsCommand : MethodName := ⟨RX7, "readsCommand", "()Z"⟩
abbrev cX7_findError : ByteArray := prog_9_method_77_code
def yX7_findError : MethodName := ⟨RX7, "findError", "()I"⟩
abbrev cX7_syntaxError : ByteArray := prog_9_method_78_code
def yX7_syntaxError : MethodName := ⟨RX7, "syntaxError", "()I"⟩
abbrev cX7_whyNotDone : ByteArray := prog_9_method_79_code
def yX7_whyNotDone : MethodName := ⟨RX7, "whyNotDone", "()I"⟩
abbrev cX7_does : ByteArray := prog_9_method_80_code
def yX7_does : MethodName := ⟨RX7, "does", "()V"⟩
abbrev cX7_carryOut : ByteArray := prog_9_method_81_code
def yX7_carryOut : MethodName := ⟨RX7, "carryOut", "()I"⟩
abbrev cX7_undo : ByteArray := prog_9_method_82_code
def yX7_undo : MethodName := ⟨RX7, "undo", "()I"⟩
abbrev cX7_digest : ByteArray := prog_9_method_83_code
def yX7_digest : MethodName := ⟨RX7, "digest", "()J"⟩
def RJ5 : String := "java/lang/AbstractStringBuilder"
def TJ5 : u_T := fun k => match k with
  | _ => ("", "", "", false)
def tyJ5 : Nat → FieldType := fun k => match k with
  | _ => .int
abbrev wsJ50 : List Cond := u_ws RJ5 TJ5 0
theorem nmJ5 : ∀ a, a < 0 → ∀ b, b < 0 → a ≠ b → (TJ5 a).2.1 ≠ (TJ5 b).2.1 := by decide +kernel
theorem tyJ5_ok : ∀ k, k < 0 → parseFieldDescriptor (TJ5 k).2.2.1 = some (tyJ5 k) := by decide +kernel
abbrev cJ5_init_d00df : ByteArray := prog_10_method_2_code
def yJ5_init_d00df : MethodName := ⟨RJ5, "<init>", "(I)V"⟩
abbrev cJ5_length_8abf5 : ByteArray := prog_10_method_6_code
def yJ5_length_8abf5 : MethodName := ⟨RJ5, "length", "()I"⟩
abbrev cJ5_ensureCapacityInternal_d00df : ByteArray := prog_10_method_9_code
def yJ5_ensureCapacityInternal_d00df : MethodName := ⟨RJ5, "ensureCapacityInternal", "(I)V"⟩
abbrev cJ5_newCapacity_0f7a4 : ByteArray := prog_10_method_10_code
def yJ5_newCapacity_0f7a4 : MethodName := ⟨RJ5, "newCapacity", "(I)I"⟩
abbrev cJ5_inflate_da8c8 : ByteArray := prog_10_method_11_code
def yJ5_inflate_da8c8 : MethodName := ⟨RJ5, "inflate", "()V"⟩
abbrev cJ5_setLength_d00df : ByteArray := prog_10_method_13_code
def yJ5_setLength_d00df : MethodName := ⟨RJ5, "setLength", "(I)V"⟩
abbrev cJ5_charAt_5068e : ByteArray := prog_10_method_14_code
def yJ5_charAt_5068e : MethodName := ⟨RJ5, "charAt", "(I)C"⟩
abbrev cJ5_append_cf1ce : ByteArray := prog_10_method_22_code
def yJ5_append_cf1ce : MethodName := ⟨RJ5, "append", "(Ljava/lang/String;)Ljava/lang/AbstractStringBuilder;"⟩
abbrev cJ5_appendNull_278bc : ByteArray := prog_10_method_26_code
def yJ5_appendNull_278bc : MethodName := ⟨RJ5, "appendNull", "()Ljava/lang/AbstractStringBuilder;"⟩
abbrev cJ5_append_3fe6f : ByteArray := prog_10_method_31_code
def yJ5_append_3fe6f : MethodName := ⟨RJ5, "append", "(C)Ljava/lang/AbstractStringBuilder;"⟩
abbrev cJ5_append_c97b9 : ByteArray := prog_10_method_32_code
def yJ5_append_c97b9 : MethodName := ⟨RJ5, "append", "(I)Ljava/lang/AbstractStringBuilder;"⟩
abbrev cJ5_isLatin1_aae02 : ByteArray := prog_10_method_68_code
def yJ5_isLatin1_aae02 : MethodName := ⟨RJ5, "isLatin1", "()Z"⟩
abbrev cJ5_inflateIfNeededFor_a7421 : ByteArray := prog_10_method_71_code
def yJ5_inflateIfNeededFor_a7421 : MethodName := ⟨RJ5, "inflateIfNeededFor", "(Ljava/lang/String;)V"⟩
abbrev cJ5_putStringAt_47b60 : ByteArray := prog_10_method_73_code
def yJ5_putStringAt_47b60 : MethodName := ⟨RJ5, "putStringAt", "(ILjava/lang/String;)V"⟩
def RJx8e188 : String := "java/lang/Cloneable"
def TJx8e188 : u_T := fun k => match k with
  | _ => ("", "", "", false)
def tyJx8e188 : Nat → FieldType := fun k => match k with
  | _ => .int
abbrev wsJx8e1880 : List Cond := u_ws RJx8e188 TJx8e188 0
theorem nmJx8e188 : ∀ a, a < 0 → ∀ b, b < 0 → a ≠ b → (TJx8e188 a).2.1 ≠ (TJx8e188 b).2.1 := by decide +kernel
theorem tyJx8e188_ok : ∀ k, k < 0 → parseFieldDescriptor (TJx8e188 k).2.2.1 = some (tyJx8e188 k) := by decide +kernel
def RJ6 : String := "java/lang/Integer"
def TJ6 : u_T := fun k => match k with
  | _ => ("", "", "", false)
def tyJ6 : Nat → FieldType := fun k => match k with
  | _ => .int
abbrev wsJ60 : List Cond := u_ws RJ6 TJ6 0
theorem nmJ6 : ∀ a, a < 0 → ∀ b, b < 0 → a ≠ b → (TJ6 a).2.1 ≠ (TJ6 b).2.1 := by decide +kernel
theorem tyJ6_ok : ∀ k, k < 0 → parseFieldDescriptor (TJ6 k).2.2.1 = some (tyJ6 k) := by decide +kernel
abbrev cJ6_getChars_ba4f3 : ByteArray := prog_12_method_12_code
def yJ6_getChars_ba4f3 : MethodName := ⟨RJ6, "getChars", "(II[B)I"⟩
abbrev cJ6_stringSize_0f7a4 : ByteArray := prog_12_method_13_code
def yJ6_stringSize_0f7a4 : MethodName := ⟨RJ6, "stringSize", "(I)I"⟩
def RJ9 : String := "java/lang/Math"
def TJ9 : u_T := fun k => match k with
  | _ => ("", "", "", false)
def tyJ9 : Nat → FieldType := fun k => match k with
  | _ => .int
abbrev wsJ90 : List Cond := u_ws RJ9 TJ9 0
theorem nmJ9 : ∀ a, a < 0 → ∀ b, b < 0 → a ≠ b → (TJ9 a).2.1 ≠ (TJ9 b).2.1 := by decide +kernel
theorem tyJ9_ok : ∀ k, k < 0 → parseFieldDescriptor (TJ9 k).2.2.1 = some (tyJ9 k) := by decide +kernel
abbrev cJ9_floorMod_7cf53 : ByteArray := prog_13_method_50_code
def yJ9_floorMod_7cf53 : MethodName := ⟨RJ9, "floorMod", "(II)I"⟩
abbrev cJ9_max_7cf53 : ByteArray := prog_13_method_65_code
def yJ9_max_7cf53 : MethodName := ⟨RJ9, "max", "(II)I"⟩
abbrev cJ9_min_7cf53 : ByteArray := prog_13_method_69_code
def yJ9_min_7cf53 : MethodName := ⟨RJ9, "min", "(II)I"⟩
def RJ0 : String := "java/lang/String"
def TJ0 : u_T := fun k => match k with
  | _ => ("", "", "", false)
def tyJ0 : Nat → FieldType := fun k => match k with
  | _ => .int
abbrev wsJ00 : List Cond := u_ws RJ0 TJ0 0
theorem nmJ0 : ∀ a, a < 0 → ∀ b, b < 0 → a ≠ b → (TJ0 a).2.1 ≠ (TJ0 b).2.1 := by decide +kernel
theorem tyJ0_ok : ∀ k, k < 0 → parseFieldDescriptor (TJ0 k).2.2.1 = some (tyJ0 k) := by decide +kernel
abbrev cJ0_length_8abf5 : ByteArray := prog_14_method_54_code
def yJ0_length_8abf5 : MethodName := ⟨RJ0, "length", "()I"⟩
abbrev cJ0_charAt_5068e : ByteArray := prog_14_method_56_code
def yJ0_charAt_5068e : MethodName := ⟨RJ0, "charAt", "(I)C"⟩
abbrev cJ0_getBytes_840e7 : ByteArray := prog_14_method_147_code
def yJ0_getBytes_840e7 : MethodName := ⟨RJ0, "getBytes", "([BIB)V"⟩
abbrev cJ0_coder_7d493 : ByteArray := prog_14_method_152_code
def yJ0_coder_7d493 : MethodName := ⟨RJ0, "coder", "()B"⟩
abbrev cJ0_isLatin1_aae02 : ByteArray := prog_14_method_154_code
def yJ0_isLatin1_aae02 : MethodName := ⟨RJ0, "isLatin1", "()Z"⟩
abbrev cJ0_checkIndex_df160 : ByteArray := prog_14_method_155_code
def yJ0_checkIndex_df160 : MethodName := ⟨RJ0, "checkIndex", "(II)V"⟩
abbrev cJ0_checkBoundsOffCount_cabcc : ByteArray := prog_14_method_157_code
def yJ0_checkBoundsOffCount_cabcc : MethodName := ⟨RJ0, "checkBoundsOffCount", "(III)I"⟩
abbrev cJ0_checkBoundsBeginEnd_23922 : ByteArray := prog_14_method_158_code
def yJ0_checkBoundsBeginEnd_23922 : MethodName := ⟨RJ0, "checkBoundsBeginEnd", "(III)V"⟩
def RJ4 : String := "java/lang/StringBuilder"
def TJ4 : u_T := fun k => match k with
  | 0 => ("java/lang/AbstractStringBuilder", "value", "[B", false)
  | 1 => ("java/lang/AbstractStringBuilder", "coder", "B", false)
  | 2 => ("java/lang/AbstractStringBuilder", "maybeLatin1", "Z", false)
  | _ => ("java/lang/AbstractStringBuilder", "count", "I", false)
def tyJ4 : Nat → FieldType := fun k => match k with
  | 0 => .array .byte
  | 1 => .byte
  | 2 => .boolean
  | _ => .int
abbrev wsJ40 : List Cond := u_ws RJ4 TJ4 4
theorem nmJ4 : ∀ a, a < 4 → ∀ b, b < 4 → a ≠ b → (TJ4 a).2.1 ≠ (TJ4 b).2.1 := by decide +kernel
theorem tyJ4_ok : ∀ k, k < 4 → parseFieldDescriptor (TJ4 k).2.2.1 = some (tyJ4 k) := by decide +kernel
abbrev cJ4_init_da8c8 : ByteArray := prog_15_method_1_code
def yJ4_init_da8c8 : MethodName := ⟨RJ4, "<init>", "()V"⟩
abbrev cJ4_append_15ec4 : ByteArray := prog_15_method_7_code
def yJ4_append_15ec4 : MethodName := ⟨RJ4, "append", "(Ljava/lang/String;)Ljava/lang/StringBuilder;"⟩
abbrev cJ4_append_cf468 : ByteArray := prog_15_method_14_code
def yJ4_append_cf468 : MethodName := ⟨RJ4, "append", "(C)Ljava/lang/StringBuilder;"⟩
abbrev cJ4_append_bf812 : ByteArray := prog_15_method_15_code
def yJ4_append_bf812 : MethodName := ⟨RJ4, "append", "(I)Ljava/lang/StringBuilder;"⟩
abbrev cJ4_charAt_5068e : ByteArray := prog_15_method_88_code
def yJ4_charAt_5068e : MethodName := ⟨RJ4, "charAt", "(I)C"⟩
abbrev cJ4_setLength_d00df : ByteArray := prog_15_method_89_code
def yJ4_setLength_d00df : MethodName := ⟨RJ4, "setLength", "(I)V"⟩
abbrev cJ4_length_8abf5 : ByteArray := prog_15_method_93_code
def yJ4_length_8abf5 : MethodName := ⟨RJ4, "length", "()I"⟩
def RJ1 : String := "java/lang/StringLatin1"
def TJ1 : u_T := fun k => match k with
  | _ => ("", "", "", false)
def tyJ1 : Nat → FieldType := fun k => match k with
  | _ => .int
abbrev wsJ10 : List Cond := u_ws RJ1 TJ1 0
theorem nmJ1 : ∀ a, a < 0 → ∀ b, b < 0 → a ≠ b → (TJ1 a).2.1 ≠ (TJ1 b).2.1 := by decide +kernel
theorem tyJ1_ok : ∀ k, k < 0 → parseFieldDescriptor (TJ1 k).2.2.1 = some (tyJ1 k) := by decide +kernel
abbrev cJ1_charAt_3b067 : ByteArray := prog_16_method_2_code
def yJ1_charAt_3b067 : MethodName := ⟨RJ1, "charAt", "([BI)C"⟩
abbrev cJ1_canEncode_fc78d : ByteArray := prog_16_method_3_code
def yJ1_canEncode_fc78d : MethodName := ⟨RJ1, "canEncode", "(C)Z"⟩
abbrev cJ1_fillNull_b72d1 : ByteArray := prog_16_method_48_code
def yJ1_fillNull_b72d1 : MethodName := ⟨RJ1, "fillNull", "([BII)V"⟩
abbrev cJ1_inflate_0e8fd : ByteArray := prog_16_method_50_code
def yJ1_inflate_0e8fd : MethodName := ⟨RJ1, "inflate", "([BI[BII)V"⟩
def RJ2 : String := "java/lang/StringUTF16"
def TJ2 : u_T := fun k => match k with
  | _ => ("", "", "", false)
def tyJ2 : Nat → FieldType := fun k => match k with
  | _ => .int
abbrev wsJ20 : List Cond := u_ws RJ2 TJ2 0
theorem nmJ2 : ∀ a, a < 0 → ∀ b, b < 0 → a ≠ b → (TJ2 a).2.1 ≠ (TJ2 b).2.1 := by decide +kernel
theorem tyJ2_ok : ∀ k, k < 0 → parseFieldDescriptor (TJ2 k).2.2.1 = some (tyJ2 k) := by decide +kernel
abbrev cJ2_newBytesFor_77867 : ByteArray := prog_17_method_2_code
def yJ2_newBytesFor_77867 : MethodName := ⟨RJ2, "newBytesFor", "(I)[B"⟩
abbrev cJ2_newBytesLength_0f7a4 : ByteArray := prog_17_method_3_code
def yJ2_newBytesLength_0f7a4 : MethodName := ⟨RJ2, "newBytesLength", "(I)I"⟩
abbrev cJ2_putChar_b72d1 : ByteArray := prog_17_method_4_code
def yJ2_putChar_b72d1 : MethodName := ⟨RJ2, "putChar", "([BII)V"⟩
abbrev cJ2_getChar_3b067 : ByteArray := prog_17_method_5_code
def yJ2_getChar_3b067 : MethodName := ⟨RJ2, "getChar", "([BI)C"⟩
abbrev cJ2_length_9d52b : ByteArray := prog_17_method_6_code
def yJ2_length_9d52b : MethodName := ⟨RJ2, "length", "([B)I"⟩
abbrev cJ2_fillNull_b72d1 : ByteArray := prog_17_method_70_code
def yJ2_fillNull_b72d1 : MethodName := ⟨RJ2, "fillNull", "([BII)V"⟩
abbrev cJ2_putCharSB_b72d1 : ByteArray := prog_17_method_71_code
def yJ2_putCharSB_b72d1 : MethodName := ⟨RJ2, "putCharSB", "([BII)V"⟩
abbrev cJ2_getChars_46870 : ByteArray := prog_17_method_77_code
def yJ2_getChars_46870 : MethodName := ⟨RJ2, "getChars", "(III[B)I"⟩
abbrev cJ2_putCharsAt_cd4e5 : ByteArray := prog_17_method_81_code
def yJ2_putCharsAt_cd4e5 : MethodName := ⟨RJ2, "putCharsAt", "([BICCCC)I"⟩
abbrev cJ2_charAt_3b067 : ByteArray := prog_17_method_83_code
def yJ2_charAt_3b067 : MethodName := ⟨RJ2, "charAt", "([BI)C"⟩
abbrev cJ2_inflate_0e8fd : ByteArray := prog_17_method_86_code
def yJ2_inflate_0e8fd : MethodName := ⟨RJ2, "inflate", "([BI[BII)V"⟩
abbrev cJ2_getChars_ba4f3 : ByteArray := prog_17_method_89_code
def yJ2_getChars_ba4f3 : MethodName := ⟨RJ2, "getChars", "(II[B)I"⟩
abbrev cJ2_checkIndex_2214a : ByteArray := prog_17_method_91_code
def yJ2_checkIndex_2214a : MethodName := ⟨RJ2, "checkIndex", "(I[B)V"⟩
abbrev cJ2_checkBoundsBeginEnd_d044e : ByteArray := prog_17_method_93_code
def yJ2_checkBoundsBeginEnd_d044e : MethodName := ⟨RJ2, "checkBoundsBeginEnd", "(II[B)V"⟩
abbrev cJ2_checkBoundsOffCount_d044e : ByteArray := prog_17_method_94_code
def yJ2_checkBoundsOffCount_d044e : MethodName := ⟨RJ2, "checkBoundsOffCount", "(II[B)V"⟩
def RJ10 : String := "java/lang/System"
def TJ10 : u_T := fun k => match k with
  | _ => ("", "", "", false)
def tyJ10 : Nat → FieldType := fun k => match k with
  | _ => .int
abbrev wsJ100 : List Cond := u_ws RJ10 TJ10 0
theorem nmJ10 : ∀ a, a < 0 → ∀ b, b < 0 → a ≠ b → (TJ10 a).2.1 ≠ (TJ10 b).2.1 := by decide +kernel
theorem tyJ10_ok : ∀ k, k < 0 → parseFieldDescriptor (TJ10 k).2.2.1 = some (tyJ10 k) := by decide +kernel
def RJ7 : String := "java/util/Arrays"
def TJ7 : u_T := fun k => match k with
  | _ => ("", "", "", false)
def tyJ7 : Nat → FieldType := fun k => match k with
  | _ => .int
abbrev wsJ70 : List Cond := u_ws RJ7 TJ7 0
theorem nmJ7 : ∀ a, a < 0 → ∀ b, b < 0 → a ≠ b → (TJ7 a).2.1 ≠ (TJ7 b).2.1 := by decide +kernel
theorem tyJ7_ok : ∀ k, k < 0 → parseFieldDescriptor (TJ7 k).2.2.1 = some (tyJ7 k) := by decide +kernel
abbrev cJ7_rangeCheck_23922 : ByteArray := prog_19_method_30_code
def yJ7_rangeCheck_23922 : MethodName := ⟨RJ7, "rangeCheck", "(III)V"⟩
abbrev cJ7_fill_eb02e : ByteArray := prog_19_method_110_code
def yJ7_fill_eb02e : MethodName := ⟨RJ7, "fill", "([BIIB)V"⟩
abbrev cJ7_copyOf_9075b : ByteArray := prog_19_method_121_code
def yJ7_copyOf_9075b : MethodName := ⟨RJ7, "copyOf", "([BI)[B"⟩
def RJ8 : String := "jdk/internal/util/ArraysSupport"
def TJ8 : u_T := fun k => match k with
  | _ => ("", "", "", false)
def tyJ8 : Nat → FieldType := fun k => match k with
  | _ => .int
abbrev wsJ80 : List Cond := u_ws RJ8 TJ8 0
theorem nmJ8 : ∀ a, a < 0 → ∀ b, b < 0 → a ≠ b → (TJ8 a).2.1 ≠ (TJ8 b).2.1 := by decide +kernel
theorem tyJ8_ok : ∀ k, k < 0 → parseFieldDescriptor (TJ8 k).2.2.1 = some (tyJ8 k) := by decide +kernel
abbrev cJ8_newLength_cabcc : ByteArray := prog_20_method_27_code
def yJ8_newLength_cabcc : MethodName := ⟨RJ8, "newLength", "(III)I"⟩
abbrev cJ8_hugeLength_7cf53 : ByteArray := prog_20_method_28_code
def yJ8_hugeLength_7cf53 : MethodName := ⟨RJ8, "hugeLength", "(II)I"⟩
def RJ3 : String := "jdk/internal/util/Preconditions"
def TJ3 : u_T := fun k => match k with
  | _ => ("", "", "", false)
def tyJ3 : Nat → FieldType := fun k => match k with
  | _ => .int
abbrev wsJ30 : List Cond := u_ws RJ3 TJ3 0
theorem nmJ3 : ∀ a, a < 0 → ∀ b, b < 0 → a ≠ b → (TJ3 a).2.1 ≠ (TJ3 b).2.1 := by decide +kernel
theorem tyJ3_ok : ∀ k, k < 0 → parseFieldDescriptor (TJ3 k).2.2.1 = some (tyJ3 k) := by decide +kernel
abbrev cJ3_checkIndex_8e157 : ByteArray := prog_21_method_11_code
def yJ3_checkIndex_8e157 : MethodName := ⟨RJ3, "checkIndex", "(IILjava/util/function/BiFunction;)I"⟩
abbrev cJ3_checkFromToIndex_8c36e : ByteArray := prog_21_method_12_code
def yJ3_checkFromToIndex_8c36e : MethodName := ⟨RJ3, "checkFromToIndex", "(IIILjava/util/function/BiFunction;)I"⟩
abbrev cJ3_checkFromIndexSize_8c36e : ByteArray := prog_21_method_13_code
def yJ3_checkFromIndexSize_8c36e : MethodName := ⟨RJ3, "checkFromIndexSize", "(IIILjava/util/function/BiFunction;)I"⟩
def RL : String := "QuietChecksLaw"
abbrev cL_law : ByteArray := code
def yL_law : MethodName := ⟨RL, "law", "([I)Z"⟩
def wsL_law_r1 : List Cond := [Cond.classLink RL 7 RX6, Cond.instantiable RX6 5, Cond.initialized RX6, Cond.classLink RL 10 RX7, Cond.instantiable RX7 11, Cond.initialized RX7, Cond.methodLink RL 9 yX6_init, Cond.instanceMethod yX6_init, Cond.code yX6_init cX6_init 1 none, Cond.methodLink RX6 1 objectInit, Cond.instanceMethod objectInit, Cond.code objectInit ⟨#[0xb1]⟩ 1 none, Cond.classLink RX6 7 RX1, Cond.instantiable RX1 17, Cond.initialized RX1, Cond.fieldLink RX6 10 "QuietChecks" "disk" "LQuietChecks$Disk;", Cond.fieldLink RX6 16 "QuietChecks" "trial" "LQuietChecks$Disk;", Cond.classLink RX6 19 RX2, Cond.instantiable RX2 2, Cond.initialized RX2, Cond.fieldLink RX6 22 "QuietChecks" "history" "LQuietChecks$History;", Cond.classLink RX6 26 RX4, Cond.instantiable RX4 8, Cond.initialized RX4]
def wsL_law_r2 : List Cond := [Cond.fieldLink RX6 29 "QuietChecks" "plan" "LQuietChecks$Plan;", Cond.classLink RX6 33 RJ4, Cond.instantiable RJ4 4, Cond.initialized RJ4, Cond.fieldLink RX6 36 "QuietChecks" "line" "Ljava/lang/StringBuilder;", Cond.methodLink RX6 9 yX1_init, Cond.instanceMethod yX1_init, Cond.code yX1_init cX1_init 1 none, Cond.methodLink RX1 3 objectInit, Cond.arrayClass .int, Cond.fieldLink RX1 9 "QuietChecks$Disk" "settings" "[I", Cond.fieldLink RX1 15 "QuietChecks$Disk" "stamps" "[I", Cond.classLink RX1 18 RX5, Cond.instantiable RX5 3, Cond.initialized RX5, Cond.fieldLink RX1 21 "QuietChecks$Disk" "spots" "LQuietChecks$Spots;", Cond.classLink RX1 25 RX0, Cond.instantiable RX0 2, Cond.initialized RX0, Cond.fieldLink RX1 28 "QuietChecks$Disk" "asked" "LQuietChecks$Asked;", Cond.classLink RX1 32 RX3, Cond.instantiable RX3 5, Cond.initialized RX3, Cond.fieldLink RX1 35 "QuietChecks$Disk" "log" "LQuietChecks$Log;"]
def wsL_law_r3 : List Cond := [Cond.fieldLink RX1 39 "QuietChecks$Disk" "way" "I", Cond.fieldLink RX1 43 "QuietChecks$Disk" "spares" "I", Cond.fieldLink RX1 46 "QuietChecks$Disk" "tick" "I", Cond.fieldLink RX1 49 "QuietChecks$Disk" "quietTicks" "I", Cond.fieldLink RX1 52 "QuietChecks$Disk" "checkSpan" "I", Cond.fieldLink RX1 55 "QuietChecks$Disk" "checkDone" "I", Cond.fieldLink RX1 58 "QuietChecks$Disk" "checkTicks" "I", Cond.fieldLink RX1 61 "QuietChecks$Disk" "rowStart" "I", Cond.fieldLink RX1 64 "QuietChecks$Disk" "ended" "I", Cond.fieldLink RX1 67 "QuietChecks$Disk" "pauses" "I", Cond.fieldLink RX1 70 "QuietChecks$Disk" "replaced" "I", Cond.fieldLink RX1 73 "QuietChecks$Disk" "slowReads" "I", Cond.methodLink RX1 79 arraycopyName, Cond.native arraycopyName, Cond.static arraycopyName, Cond.initialized "java/lang/System", Cond.instanceMethod yX5_init, Cond.code yX5_init cX5_init 1 none, Cond.methodLink RX5 3 objectInit, Cond.fieldLink RX5 9 "QuietChecks$Spots" "spans" "[I", Cond.fieldLink RX5 15 "QuietChecks$Spots" "tries" "[I", Cond.fieldLink RX5 18 "QuietChecks$Spots" "size" "I", Cond.instanceMethod yX0_init, Cond.code yX0_init cX0_init 1 none]
def wsL_law_r4 : List Cond := [Cond.methodLink RX0 3 objectInit, Cond.fieldLink RX0 9 "QuietChecks$Asked" "spans" "[I", Cond.fieldLink RX0 15 "QuietChecks$Asked" "size" "I", Cond.instanceMethod yX3_init, Cond.code yX3_init cX3_init 1 none, Cond.methodLink RX3 3 objectInit, Cond.fieldLink RX3 9 "QuietChecks$Log" "ticks" "[I", Cond.fieldLink RX3 15 "QuietChecks$Log" "kinds" "[I", Cond.fieldLink RX3 18 "QuietChecks$Log" "spans" "[I", Cond.fieldLink RX3 21 "QuietChecks$Log" "next" "I", Cond.fieldLink RX3 25 "QuietChecks$Log" "size" "I", Cond.methodLink RX6 21 yX2_init, Cond.instanceMethod yX2_init, Cond.code yX2_init cX2_init 2 none, Cond.methodLink RX2 3 objectInit, Cond.classLink RX2 9 RX1, Cond.fieldLink RX2 11 "QuietChecks$History" "rows" "[LQuietChecks$Disk;", Cond.fieldLink RX2 17 "QuietChecks$History" "size" "I", Cond.methodLink RX2 21 yX1_init, Cond.instanceMethod yX4_init, Cond.code yX4_init cX4_init 1 none, Cond.methodLink RX4 3 objectInit, Cond.arrayClass .char, Cond.fieldLink RX4 9 "QuietChecks$Plan" "text" "[C"]
def wsL_law_r5 : List Cond := [Cond.fieldLink RX4 15 "QuietChecks$Plan" "length" "I", Cond.fieldLink RX4 19 "QuietChecks$Plan" "at" "I", Cond.fieldLink RX4 22 "QuietChecks$Plan" "kinds" "[I", Cond.fieldLink RX4 26 "QuietChecks$Plan" "firsts" "[I", Cond.fieldLink RX4 29 "QuietChecks$Plan" "seconds" "[I", Cond.fieldLink RX4 32 "QuietChecks$Plan" "commands" "I", Cond.fieldLink RX4 35 "QuietChecks$Plan" "value" "I", Cond.methodLink RX6 35 yJ4_init_da8c8, Cond.instanceMethod yJ4_init_da8c8, Cond.code yJ4_init_da8c8 cJ4_init_da8c8 1 none, Cond.methodLink RJ4 1 yJ5_init_d00df, Cond.instanceMethod yJ5_init_d00df, Cond.initialized RJ5, Cond.code yJ5_init_d00df cJ5_init_d00df 2 none, Cond.methodLink RJ5 3 objectInit, Cond.fieldLink RJ5 18 "java/lang/String" "COMPACT_STRINGS" "Z", Cond.arrayClass .byte, Cond.fieldLink RJ5 15 "java/lang/AbstractStringBuilder" "value" "[B", Cond.fieldLink RJ5 22 "java/lang/AbstractStringBuilder" "coder" "B", Cond.methodLink RJ5 26 yJ2_newBytesFor_77867, Cond.static yJ2_newBytesFor_77867, Cond.initialized RJ2, Cond.code yJ2_newBytesFor_77867 cJ2_newBytesFor_77867 1 (some (.array .byte)), Cond.methodLink RJ2 11 yJ2_newBytesLength_0f7a4]
def wsL_law_r6 : List Cond := [Cond.static yJ2_newBytesLength_0f7a4, Cond.code yJ2_newBytesLength_0f7a4 cJ2_newBytesLength_0f7a4 1 (some .int), Cond.constant RJ2 20 (1073741823), Cond.methodLink RL 12 yX7_init, Cond.instanceMethod yX7_init, Cond.code yX7_init cX7_init 1 none, Cond.methodLink RX7 1 objectInit, Cond.fieldLink RX7 7 "QuietChecksModel" "state" "[I", Cond.fieldLink RX7 13 "QuietChecksModel" "kept" "[I", Cond.fieldLink RX7 16 "QuietChecksModel" "history" "[I", Cond.fieldLink RX7 19 "QuietChecksModel" "text" "[I", Cond.methodLink RL 13 yX6_set, Cond.instanceMethod yX6_set, Cond.selects RX6 yX6_set yX6_set, Cond.code yX6_set cX6_set 3 (some .int), Cond.methodLink RX6 40 yX2_draft, Cond.instanceMethod yX2_draft, Cond.selects RX2 yX2_draft yX2_draft, Cond.code yX2_draft cX2_draft 3 none, Cond.methodLink RX2 22 yX2_rowAt, Cond.instanceMethod yX2_rowAt, Cond.selects RX2 yX2_rowAt yX2_rowAt, Cond.code yX2_rowAt cX2_rowAt 2 (some (.object "QuietChecks$Disk")), Cond.methodLink RX2 26 yX1_copyFrom]
def wsL_law_r7 : List Cond := [Cond.instanceMethod yX1_copyFrom, Cond.selects RX1 yX1_copyFrom yX1_copyFrom, Cond.code yX1_copyFrom cX1_copyFrom 2 none, Cond.methodLink RX1 85 yX5_copyFrom, Cond.instanceMethod yX5_copyFrom, Cond.selects RX5 yX5_copyFrom yX5_copyFrom, Cond.code yX5_copyFrom cX5_copyFrom 2 none, Cond.methodLink RX5 22 arraycopyName, Cond.methodLink RX1 89 yX0_copyFrom, Cond.instanceMethod yX0_copyFrom, Cond.selects RX0 yX0_copyFrom yX0_copyFrom, Cond.code yX0_copyFrom cX0_copyFrom 2 none, Cond.methodLink RX0 19 arraycopyName, Cond.methodLink RX1 92 yX3_copyFrom, Cond.instanceMethod yX3_copyFrom, Cond.selects RX3 yX3_copyFrom yX3_copyFrom, Cond.code yX3_copyFrom cX3_copyFrom 2 none, Cond.methodLink RX3 28 arraycopyName, Cond.methodLink RX6 44 yX1_changeSetting, Cond.instanceMethod yX1_changeSetting, Cond.selects RX1 yX1_changeSetting yX1_changeSetting, Cond.code yX1_changeSetting cX1_changeSetting 4 (some .int), Cond.static yX6_isSetting, Cond.code yX6_isSetting cX6_isSetting 1 (some .boolean)]
def wsL_law_r8 : List Cond := [Cond.methodLink RX6 48 yX2_keep, Cond.instanceMethod yX2_keep, Cond.selects RX2 yX2_keep yX2_keep, Cond.code yX2_keep cX2_keep 2 (some .int), Cond.methodLink RX2 30 yX2_discardOldest, Cond.instanceMethod yX2_discardOldest, Cond.selects RX2 yX2_discardOldest yX2_discardOldest, Cond.code yX2_discardOldest cX2_discardOldest 3 none, Cond.methodLink RL 17 yX7_set, Cond.instanceMethod yX7_set, Cond.selects RX7 yX7_set yX7_set, Cond.code yX7_set cX7_set 3 (some .int), Cond.methodLink RX7 115 yX7_isSetting, Cond.static yX7_isSetting, Cond.code yX7_isSetting cX7_isSetting 1 (some .boolean), Cond.methodLink RX7 30 yX7_within, Cond.static yX7_within, Cond.code yX7_within cX7_within 3 (some .boolean), Cond.methodLink RX7 118 yX7_fits, Cond.static yX7_fits, Cond.code yX7_fits cX7_fits 2 (some .boolean), Cond.methodLink RX7 122 yX7_sets, Cond.instanceMethod yX7_sets, Cond.selects RX7 yX7_sets yX7_sets]
def wsL_law_r9 : List Cond := [Cond.code yX7_sets cX7_sets 4 (some .int), Cond.methodLink RX7 112 yX7_record, Cond.instanceMethod yX7_record, Cond.selects RX7 yX7_record yX7_record, Cond.code yX7_record cX7_record 2 none, Cond.fieldLink RX7 22 "QuietChecksModel" "recorded" "I", Cond.methodLink RX7 26 yX7_copies, Cond.static yX7_copies, Cond.code yX7_copies cX7_copies 5 none, Cond.methodLink RL 18 yX6_setWay, Cond.instanceMethod yX6_setWay, Cond.selects RX6 yX6_setWay yX6_setWay, Cond.code yX6_setWay cX6_setWay 2 (some .int), Cond.methodLink RX6 52 yX1_changeWay, Cond.instanceMethod yX1_changeWay, Cond.selects RX1 yX1_changeWay yX1_changeWay, Cond.code yX1_changeWay cX1_changeWay 3 (some .int), Cond.methodLink RL 22 yX7_setWay, Cond.instanceMethod yX7_setWay, Cond.selects RX7 yX7_setWay yX7_setWay, Cond.code yX7_setWay cX7_setWay 2 (some .int), Cond.methodLink RL 23 yX6_addSpares, Cond.instanceMethod yX6_addSpares, Cond.selects RX6 yX6_addSpares yX6_addSpares]
def wsL_law_r10 : List Cond := [Cond.code yX6_addSpares cX6_addSpares 2 (some .int), Cond.methodLink RX6 55 yX1_takeSpares, Cond.instanceMethod yX1_takeSpares, Cond.selects RX1 yX1_takeSpares yX1_takeSpares, Cond.code yX1_takeSpares cX1_takeSpares 2 (some .int), Cond.methodLink RL 26 yX7_addSpares, Cond.instanceMethod yX7_addSpares, Cond.selects RX7 yX7_addSpares yX7_addSpares, Cond.code yX7_addSpares cX7_addSpares 2 (some .int), Cond.methodLink RL 27 yX6_spot, Cond.instanceMethod yX6_spot, Cond.selects RX6 yX6_spot yX6_spot, Cond.code yX6_spot cX6_spot 3 (some .int), Cond.methodLink RX6 58 yX1_takeSpot, Cond.instanceMethod yX1_takeSpot, Cond.selects RX1 yX1_takeSpot yX1_takeSpot, Cond.code yX1_takeSpot cX1_takeSpot 3 (some .int), Cond.static yX6_isSpan, Cond.code yX6_isSpan cX6_isSpan 1 (some .boolean), Cond.methodLink RX1 108 yX5_append, Cond.instanceMethod yX5_append, Cond.selects RX5 yX5_append yX5_append, Cond.code yX5_append cX5_append 3 (some .boolean), Cond.methodLink RX1 112 yX5_sizeOf]
def wsL_law_r11 : List Cond := [Cond.instanceMethod yX5_sizeOf, Cond.selects RX5 yX5_sizeOf yX5_sizeOf, Cond.code yX5_sizeOf cX5_sizeOf 4 (some .int), Cond.methodLink RL 30 yX7_spot, Cond.instanceMethod yX7_spot, Cond.selects RX7 yX7_spot yX7_spot, Cond.code yX7_spot cX7_spot 4 (some .int), Cond.methodLink RX7 131 yX7_whyNotSpot, Cond.instanceMethod yX7_whyNotSpot, Cond.selects RX7 yX7_whyNotSpot yX7_whyNotSpot, Cond.code yX7_whyNotSpot cX7_whyNotSpot 3 (some .int), Cond.methodLink RX7 125 yX7_isSpan, Cond.static yX7_isSpan, Cond.code yX7_isSpan cX7_isSpan 1 (some .boolean), Cond.methodLink RX7 134 yX7_adds, Cond.instanceMethod yX7_adds, Cond.selects RX7 yX7_adds yX7_adds, Cond.code yX7_adds cX7_adds 3 (some .int), Cond.methodLink RX7 128 yX7_spotsMany, Cond.instanceMethod yX7_spotsMany, Cond.selects RX7 yX7_spotsMany yX7_spotsMany, Cond.code yX7_spotsMany cX7_spotsMany 4 (some .int), Cond.methodLink RX7 73 yX7_spotSpan, Cond.instanceMethod yX7_spotSpan]
def wsL_law_r12 : List Cond := [Cond.selects RX7 yX7_spotSpan yX7_spotSpan, Cond.code yX7_spotSpan cX7_spotSpan 2 (some .int), Cond.methodLink RL 31 yX6_ask, Cond.instanceMethod yX6_ask, Cond.selects RX6 yX6_ask yX6_ask, Cond.code yX6_ask cX6_ask 2 (some .int), Cond.methodLink RX6 61 yX1_askByHand, Cond.instanceMethod yX1_askByHand, Cond.selects RX1 yX1_askByHand yX1_askByHand, Cond.code yX1_askByHand cX1_askByHand 2 (some .int), Cond.methodLink RX1 116 yX0_placeOf, Cond.instanceMethod yX0_placeOf, Cond.selects RX0 yX0_placeOf yX0_placeOf, Cond.code yX0_placeOf cX0_placeOf 3 (some .int), Cond.methodLink RX1 119 yX0_append, Cond.instanceMethod yX0_append, Cond.selects RX0 yX0_append yX0_append, Cond.code yX0_append cX0_append 2 (some .boolean), Cond.methodLink RL 34 yX7_ask, Cond.instanceMethod yX7_ask, Cond.selects RX7 yX7_ask yX7_ask, Cond.code yX7_ask cX7_ask 3 (some .int), Cond.methodLink RX7 140 yX7_whyNotAsked, Cond.instanceMethod yX7_whyNotAsked]
def wsL_law_r13 : List Cond := [Cond.selects RX7 yX7_whyNotAsked yX7_whyNotAsked, Cond.code yX7_whyNotAsked cX7_whyNotAsked 2 (some .int), Cond.methodLink RX7 137 yX7_placeOf, Cond.instanceMethod yX7_placeOf, Cond.selects RX7 yX7_placeOf yX7_placeOf, Cond.code yX7_placeOf cX7_placeOf 4 (some .int), Cond.methodLink RX7 143 yX7_asks, Cond.instanceMethod yX7_asks, Cond.selects RX7 yX7_asks yX7_asks, Cond.code yX7_asks cX7_asks 2 (some .int), Cond.methodLink RL 35 yX6_unask, Cond.instanceMethod yX6_unask, Cond.selects RX6 yX6_unask yX6_unask, Cond.code yX6_unask cX6_unask 2 (some .int), Cond.methodLink RX6 64 yX1_withdraw, Cond.instanceMethod yX1_withdraw, Cond.selects RX1 yX1_withdraw yX1_withdraw, Cond.code yX1_withdraw cX1_withdraw 2 (some .int), Cond.methodLink RX1 124 yX0_drop, Cond.instanceMethod yX0_drop, Cond.selects RX0 yX0_drop yX0_drop, Cond.code yX0_drop cX0_drop 4 (some .boolean), Cond.methodLink RX0 25 yX0_placeOf, Cond.methodLink RL 38 yX7_unask]
def wsL_law_r14 : List Cond := [Cond.instanceMethod yX7_unask, Cond.selects RX7 yX7_unask yX7_unask, Cond.code yX7_unask cX7_unask 3 (some .int), Cond.methodLink RX7 89 yX7_takesOut, Cond.instanceMethod yX7_takesOut, Cond.selects RX7 yX7_takesOut yX7_takesOut, Cond.code yX7_takesOut cX7_takesOut 3 none, Cond.methodLink RL 39 yX6_read, Cond.instanceMethod yX6_read, Cond.selects RX6 yX6_read yX6_read, Cond.code yX6_read cX6_read 3 (some .int), Cond.methodLink RX6 67 yX1_hostReads, Cond.instanceMethod yX1_hostReads, Cond.selects RX1 yX1_hostReads yX1_hostReads, Cond.code yX1_hostReads cX1_hostReads 3 (some .int), Cond.constant RX1 127 (99999), Cond.methodLink RX1 128 yX1_pauseCheck, Cond.instanceMethod yX1_pauseCheck, Cond.selects RX1 yX1_pauseCheck yX1_pauseCheck, Cond.code yX1_pauseCheck cX1_pauseCheck 1 none, Cond.methodLink RX1 176 Lib.Math.max.name, Cond.static Lib.Math.max.name, Cond.initialized "java/lang/Math", Cond.code Lib.Math.max.name Lib.Math.max.code 2 (some .int)]
def wsL_law_r15 : List Cond := [Cond.methodLink RX1 134 yX3_append, Cond.instanceMethod yX3_append, Cond.selects RX3 yX3_append yX3_append, Cond.code yX3_append cX3_append 4 none, Cond.methodLink RX1 131 yX5_hasWeak, Cond.instanceMethod yX5_hasWeak, Cond.selects RX5 yX5_hasWeak yX5_hasWeak, Cond.code yX5_hasWeak cX5_hasWeak 4 (some .boolean), Cond.methodLink RX1 137 yX1_askByHand, Cond.methodLink RL 42 yX7_read, Cond.instanceMethod yX7_read, Cond.selects RX7 yX7_read yX7_read, Cond.code yX7_read cX7_read 4 (some .int), Cond.methodLink RX7 150 yX7_whyNotRead, Cond.instanceMethod yX7_whyNotRead, Cond.selects RX7 yX7_whyNotRead yX7_whyNotRead, Cond.code yX7_whyNotRead cX7_whyNotRead 3 (some .int), Cond.constant RX7 146 (99999), Cond.methodLink RX7 153 yX7_reads, Cond.instanceMethod yX7_reads, Cond.selects RX7 yX7_reads yX7_reads, Cond.code yX7_reads cX7_reads 3 (some .int), Cond.methodLink RX7 96 yX7_logs, Cond.instanceMethod yX7_logs]
def wsL_law_r16 : List Cond := [Cond.selects RX7 yX7_logs yX7_logs, Cond.code yX7_logs cX7_logs 4 none, Cond.methodLink RX7 147 yX7_isSlow, Cond.instanceMethod yX7_isSlow, Cond.selects RX7 yX7_isSlow yX7_isSlow, Cond.code yX7_isSlow cX7_isSlow 4 (some .boolean), Cond.methodLink RX7 70 yX7_spotTries, Cond.instanceMethod yX7_spotTries, Cond.selects RX7 yX7_spotTries yX7_spotTries, Cond.code yX7_spotTries cX7_spotTries 2 (some .int), Cond.methodLink RL 43 yX6_quiet, Cond.instanceMethod yX6_quiet, Cond.selects RX6 yX6_quiet yX6_quiet, Cond.code yX6_quiet cX6_quiet 2 (some .int), Cond.methodLink RX6 70 yX1_passQuietTicks, Cond.instanceMethod yX1_passQuietTicks, Cond.selects RX1 yX1_passQuietTicks yX1_passQuietTicks, Cond.code yX1_passQuietTicks cX1_passQuietTicks 4 (some .int), Cond.methodLink RX1 140 yX1_passQuietTick, Cond.instanceMethod yX1_passQuietTick, Cond.selects RX1 yX1_passQuietTick yX1_passQuietTick, Cond.code yX1_passQuietTick cX1_passQuietTick 2 (some .int), Cond.methodLink RX1 144 yX1_chooseSpan, Cond.instanceMethod yX1_chooseSpan]
def wsL_law_r17 : List Cond := [Cond.selects RX1 yX1_chooseSpan yX1_chooseSpan, Cond.code yX1_chooseSpan cX1_chooseSpan 6 (some .int), Cond.methodLink RX1 160 yX1_isDue, Cond.instanceMethod yX1_isDue, Cond.selects RX1 yX1_isDue yX1_isDue, Cond.code yX1_isDue cX1_isDue 2 (some .boolean), Cond.methodLink RX1 166 yX1_ageOf, Cond.instanceMethod yX1_ageOf, Cond.selects RX1 yX1_ageOf yX1_ageOf, Cond.code yX1_ageOf cX1_ageOf 2 (some .int), Cond.methodLink RX1 163 yX1_rankOf, Cond.instanceMethod yX1_rankOf, Cond.selects RX1 yX1_rankOf yX1_rankOf, Cond.code yX1_rankOf cX1_rankOf 2 (some .int), Cond.methodLink RX1 169 yX5_sumOf, Cond.instanceMethod yX5_sumOf, Cond.selects RX5 yX5_sumOf yX5_sumOf, Cond.code yX5_sumOf cX5_sumOf 5 (some .int), Cond.methodLink RX5 28 Lib.Math.min.name, Cond.static Lib.Math.min.name, Cond.code Lib.Math.min.name Lib.Math.min.code 2 (some .int), Cond.methodLink RX1 147 yX1_beginCheck, Cond.instanceMethod yX1_beginCheck, Cond.selects RX1 yX1_beginCheck yX1_beginCheck]
def wsL_law_r18 : List Cond := [Cond.code yX1_beginCheck cX1_beginCheck 2 none, Cond.methodLink RX1 173 yX1_ticksOfCheck, Cond.instanceMethod yX1_ticksOfCheck, Cond.selects RX1 yX1_ticksOfCheck yX1_ticksOfCheck, Cond.code yX1_ticksOfCheck cX1_ticksOfCheck 2 (some .int), Cond.methodLink RX1 151 yX1_endCheck, Cond.instanceMethod yX1_endCheck, Cond.selects RX1 yX1_endCheck yX1_endCheck, Cond.code yX1_endCheck cX1_endCheck 4 none, Cond.methodLink RX1 154 yX1_clearCheck, Cond.instanceMethod yX1_clearCheck, Cond.selects RX1 yX1_clearCheck yX1_clearCheck, Cond.code yX1_clearCheck cX1_clearCheck 1 none, Cond.methodLink RX1 186 yX1_lookAtSpot, Cond.instanceMethod yX1_lookAtSpot, Cond.selects RX1 yX1_lookAtSpot yX1_lookAtSpot, Cond.code yX1_lookAtSpot cX1_lookAtSpot 4 none, Cond.methodLink RL 46 yX7_quiet, Cond.instanceMethod yX7_quiet, Cond.selects RX7 yX7_quiet yX7_quiet, Cond.code yX7_quiet cX7_quiet 3 (some .int), Cond.methodLink RX7 156 yX7_whyNotQuiet, Cond.instanceMethod yX7_whyNotQuiet, Cond.selects RX7 yX7_whyNotQuiet yX7_whyNotQuiet]
def wsL_law_r19 : List Cond := [Cond.code yX7_whyNotQuiet cX7_whyNotQuiet 2 (some .int), Cond.methodLink RX7 159 yX7_passes, Cond.instanceMethod yX7_passes, Cond.selects RX7 yX7_passes yX7_passes, Cond.code yX7_passes cX7_passes 4 (some .int), Cond.methodLink RX7 109 yX7_passesTick, Cond.instanceMethod yX7_passesTick, Cond.selects RX7 yX7_passesTick yX7_passesTick, Cond.code yX7_passesTick cX7_passesTick 2 (some .int), Cond.methodLink RX7 103 yX7_begins, Cond.instanceMethod yX7_begins, Cond.selects RX7 yX7_begins yX7_begins, Cond.code yX7_begins cX7_begins 2 none, Cond.methodLink RX7 86 yX7_nextSpan, Cond.instanceMethod yX7_nextSpan, Cond.selects RX7 yX7_nextSpan yX7_nextSpan, Cond.code yX7_nextSpan cX7_nextSpan 1 (some .int), Cond.methodLink RX7 83 yX7_bestDue, Cond.instanceMethod yX7_bestDue, Cond.selects RX7 yX7_bestDue yX7_bestDue, Cond.code yX7_bestDue cX7_bestDue 6 (some .int), Cond.methodLink RX7 67 yX7_age, Cond.instanceMethod yX7_age, Cond.selects RX7 yX7_age yX7_age]
def wsL_law_r20 : List Cond := [Cond.code yX7_age cX7_age 2 (some .int), Cond.methodLink RX7 76 yX7_sumOf, Cond.instanceMethod yX7_sumOf, Cond.selects RX7 yX7_sumOf yX7_sumOf, Cond.code yX7_sumOf cX7_sumOf 6 (some .int), Cond.methodLink RX7 79 yX7_isDue, Cond.instanceMethod yX7_isDue, Cond.selects RX7 yX7_isDue yX7_isDue, Cond.code yX7_isDue cX7_isDue 2 (some .boolean), Cond.methodLink RX7 93 yX7_takes, Cond.instanceMethod yX7_takes, Cond.selects RX7 yX7_takes yX7_takes, Cond.code yX7_takes cX7_takes 2 (some .int), Cond.methodLink RX7 106 yX7_endsCheck, Cond.instanceMethod yX7_endsCheck, Cond.selects RX7 yX7_endsCheck yX7_endsCheck, Cond.code yX7_endsCheck cX7_endsCheck 9 none, Cond.methodLink RX7 100 yX7_stops, Cond.instanceMethod yX7_stops, Cond.selects RX7 yX7_stops yX7_stops, Cond.code yX7_stops cX7_stops 1 none, Cond.methodLink RL 47 yX6_giveUp, Cond.instanceMethod yX6_giveUp, Cond.selects RX6 yX6_giveUp yX6_giveUp]
def wsL_law_r21 : List Cond := [Cond.code yX6_giveUp cX6_giveUp 1 (some .int), Cond.methodLink RX6 73 yX1_dropCheck, Cond.instanceMethod yX1_dropCheck, Cond.selects RX1 yX1_dropCheck yX1_dropCheck, Cond.code yX1_dropCheck cX1_dropCheck 2 (some .int), Cond.methodLink RL 51 yX7_giveUp, Cond.instanceMethod yX7_giveUp, Cond.selects RX7 yX7_giveUp yX7_giveUp, Cond.code yX7_giveUp cX7_giveUp 2 (some .int), Cond.methodLink RL 52 yX6_count, Cond.instanceMethod yX6_count, Cond.selects RX6 yX6_count yX6_count, Cond.code yX6_count cX6_count 2 (some .int), Cond.methodLink RX6 77 yX1_numberOfDisk, Cond.instanceMethod yX1_numberOfDisk, Cond.selects RX1 yX1_numberOfDisk yX1_numberOfDisk, Cond.code yX1_numberOfDisk cX1_numberOfDisk 2 (some .int), Cond.methodLink RL 55 yX7_count, Cond.instanceMethod yX7_count, Cond.selects RX7 yX7_count yX7_count, Cond.code yX7_count cX7_count 2 (some .int), Cond.methodLink RL 56 yX6_setting, Cond.instanceMethod yX6_setting, Cond.selects RX6 yX6_setting yX6_setting]
def wsL_law_r22 : List Cond := [Cond.code yX6_setting cX6_setting 2 (some .int), Cond.methodLink RX6 80 yX6_isSetting, Cond.methodLink RL 59 yX7_setting, Cond.instanceMethod yX7_setting, Cond.selects RX7 yX7_setting yX7_setting, Cond.code yX7_setting cX7_setting 2 (some .int), Cond.methodLink RL 60 yX6_span, Cond.instanceMethod yX6_span, Cond.selects RX6 yX6_span yX6_span, Cond.code yX6_span cX6_span 3 (some .int), Cond.methodLink RX6 88 yX6_isSpan, Cond.methodLink RX6 91 yX1_numberOfSpan, Cond.instanceMethod yX1_numberOfSpan, Cond.selects RX1 yX1_numberOfSpan yX1_numberOfSpan, Cond.code yX1_numberOfSpan cX1_numberOfSpan 3 (some .int), Cond.methodLink RX1 189 yX1_isOverdue, Cond.instanceMethod yX1_isOverdue, Cond.selects RX1 yX1_isOverdue yX1_isOverdue, Cond.code yX1_isOverdue cX1_isOverdue 2 (some .boolean), Cond.methodLink RL 63 yX7_span, Cond.instanceMethod yX7_span, Cond.selects RX7 yX7_span yX7_span, Cond.code yX7_span cX7_span 3 (some .int), Cond.methodLink RX7 162 yX7_ofSpan]
def wsL_law_r23 : List Cond := [Cond.instanceMethod yX7_ofSpan, Cond.selects RX7 yX7_ofSpan yX7_ofSpan, Cond.code yX7_ofSpan cX7_ofSpan 3 (some .int), Cond.methodLink RL 64 yX6_tries, Cond.instanceMethod yX6_tries, Cond.selects RX6 yX6_tries yX6_tries, Cond.code yX6_tries cX6_tries 3 (some .int), Cond.methodLink RX6 98 yX5_triesAt, Cond.instanceMethod yX5_triesAt, Cond.selects RX5 yX5_triesAt yX5_triesAt, Cond.code yX5_triesAt cX5_triesAt 5 (some .int), Cond.methodLink RL 67 yX7_tries, Cond.instanceMethod yX7_tries, Cond.selects RX7 yX7_tries yX7_tries, Cond.code yX7_tries cX7_tries 5 (some .int), Cond.methodLink RL 68 yX6_entries, Cond.instanceMethod yX6_entries, Cond.selects RX6 yX6_entries yX6_entries, Cond.code yX6_entries cX6_entries 1 (some .int), Cond.methodLink RL 71 yX7_entries, Cond.instanceMethod yX7_entries, Cond.selects RX7 yX7_entries yX7_entries, Cond.code yX7_entries cX7_entries 1 (some .int), Cond.methodLink RX7 34 yX7_entriesMany]
def wsL_law_r24 : List Cond := [Cond.instanceMethod yX7_entriesMany, Cond.selects RX7 yX7_entriesMany yX7_entriesMany, Cond.code yX7_entriesMany cX7_entriesMany 1 (some .int), Cond.methodLink RL 72 yX6_entry, Cond.instanceMethod yX6_entry, Cond.selects RX6 yX6_entry yX6_entry, Cond.code yX6_entry cX6_entry 3 (some .int), Cond.methodLink RX6 113 yX3_has, Cond.instanceMethod yX3_has, Cond.selects RX3 yX3_has yX3_has, Cond.code yX3_has cX3_has 2 (some .boolean), Cond.methodLink RX6 116 yX3_tickAt, Cond.instanceMethod yX3_tickAt, Cond.selects RX3 yX3_tickAt yX3_tickAt, Cond.code yX3_tickAt cX3_tickAt 2 (some .int), Cond.methodLink RX3 34 yX3_placeOf, Cond.instanceMethod yX3_placeOf, Cond.selects RX3 yX3_placeOf yX3_placeOf, Cond.code yX3_placeOf cX3_placeOf 2 (some .int), Cond.methodLink RX3 38 yJ9_floorMod_7cf53, Cond.static yJ9_floorMod_7cf53, Cond.initialized RJ9, Cond.code yJ9_floorMod_7cf53 cJ9_floorMod_7cf53 3 (some .int), Cond.methodLink RX6 119 yX3_kindAt]
def wsL_law_r25 : List Cond := [Cond.instanceMethod yX3_kindAt, Cond.selects RX3 yX3_kindAt yX3_kindAt, Cond.code yX3_kindAt cX3_kindAt 2 (some .int), Cond.methodLink RX6 122 yX3_spanAt, Cond.instanceMethod yX3_spanAt, Cond.selects RX3 yX3_spanAt yX3_spanAt, Cond.code yX3_spanAt cX3_spanAt 2 (some .int), Cond.methodLink RX6 125 yX6_writeLine, Cond.instanceMethod yX6_writeLine, Cond.selects RX6 yX6_writeLine yX6_writeLine, Cond.code yX6_writeLine cX6_writeLine 2 none, Cond.methodLink RX6 208 yJ4_setLength_d00df, Cond.instanceMethod yJ4_setLength_d00df, Cond.selects RJ4 yJ4_setLength_d00df yJ4_setLength_d00df, Cond.code yJ4_setLength_d00df cJ4_setLength_d00df 2 none, Cond.methodLink RJ4 333 yJ5_setLength_d00df, Cond.sameMethod "java/lang/AbstractStringBuilder" "java/lang/AbstractStringBuilder" "setLength" "(I)V", Cond.superclass RJ4 RJ5, Cond.instanceMethod yJ5_setLength_d00df, Cond.code yJ5_setLength_d00df cJ5_setLength_d00df 2 none, Cond.fieldLink RJ5 79 "java/lang/AbstractStringBuilder" "count" "I", Cond.fieldLink RJ5 73 "java/lang/AbstractStringBuilder" "maybeLatin1" "Z", Cond.methodLink RJ5 100 ⟨"java/lang/AbstractStringBuilder", "ensureCapacityInternal", "(I)V"⟩, Cond.sameMethod "java/lang/AbstractStringBuilder" "java/lang/AbstractStringBuilder" "ensureCapacityInternal" "(I)V"]
def wsL_law_r26 : List Cond := [Cond.selects RJ4 ⟨"java/lang/AbstractStringBuilder", "ensureCapacityInternal", "(I)V"⟩ yJ5_ensureCapacityInternal_d00df, Cond.instanceMethod yJ5_ensureCapacityInternal_d00df, Cond.code yJ5_ensureCapacityInternal_d00df cJ5_ensureCapacityInternal_d00df 3 none, Cond.methodLink RJ5 104 ⟨"java/lang/AbstractStringBuilder", "newCapacity", "(I)I"⟩, Cond.sameMethod "java/lang/AbstractStringBuilder" "java/lang/AbstractStringBuilder" "newCapacity" "(I)I", Cond.selects RJ4 ⟨"java/lang/AbstractStringBuilder", "newCapacity", "(I)I"⟩ yJ5_newCapacity_0f7a4, Cond.instanceMethod yJ5_newCapacity_0f7a4, Cond.code yJ5_newCapacity_0f7a4 cJ5_newCapacity_0f7a4 6 (some .int), Cond.constant RJ5 39 (2147483647), Cond.methodLink RJ5 114 yJ8_newLength_cabcc, Cond.static yJ8_newLength_cabcc, Cond.initialized RJ8, Cond.code yJ8_newLength_cabcc cJ8_newLength_cabcc 4 (some .int), Cond.methodLink RJ8 194 Lib.Math.max.name, Cond.constant RJ8 200 (2147483639), Cond.methodLink RJ8 201 yJ8_hugeLength_7cf53, Cond.static yJ8_hugeLength_7cf53, Cond.code yJ8_hugeLength_7cf53 cJ8_hugeLength_7cf53 3 (some .int), Cond.methodLink RJ5 108 yJ7_copyOf_9075b, Cond.static yJ7_copyOf_9075b, Cond.initialized RJ7, Cond.code yJ7_copyOf_9075b cJ7_copyOf_9075b 3 (some (.array .byte)), Cond.methodLink RJ7 310 ⟨"[B", "clone", "()Ljava/lang/Object;"⟩, Cond.sameMethod "[B" "java/lang/Object" "clone" "()Ljava/lang/Object;"]
def wsL_law_r27 : List Cond := [Cond.native ⟨"java/lang/Object", "clone", "()Ljava/lang/Object;"⟩, Cond.instanceMethod ⟨"java/lang/Object", "clone", "()Ljava/lang/Object;"⟩, Cond.selects "[B" ⟨"[B", "clone", "()Ljava/lang/Object;"⟩ ⟨"java/lang/Object", "clone", "()Ljava/lang/Object;"⟩, Cond.classLink RJ7 311 "[B", Cond.methodLink RJ7 304 Lib.Math.min.name, Cond.methodLink RJ7 150 arraycopyName, Cond.methodLink RJ5 83 ⟨"java/lang/AbstractStringBuilder", "isLatin1", "()Z"⟩, Cond.sameMethod "java/lang/AbstractStringBuilder" "java/lang/AbstractStringBuilder" "isLatin1" "()Z", Cond.selects RJ4 ⟨"java/lang/AbstractStringBuilder", "isLatin1", "()Z"⟩ yJ5_isLatin1_aae02, Cond.instanceMethod yJ5_isLatin1_aae02, Cond.code yJ5_isLatin1_aae02 cJ5_isLatin1_aae02 1 (some .boolean), Cond.methodLink RJ5 133 yJ1_fillNull_b72d1, Cond.static yJ1_fillNull_b72d1, Cond.initialized RJ1, Cond.code yJ1_fillNull_b72d1 cJ1_fillNull_b72d1 3 none, Cond.methodLink RJ1 236 yJ7_fill_eb02e, Cond.static yJ7_fill_eb02e, Cond.code yJ7_fill_eb02e cJ7_fill_eb02e 5 none, Cond.methodLink RJ7 13 yJ7_rangeCheck_23922, Cond.static yJ7_rangeCheck_23922, Cond.code yJ7_rangeCheck_23922 cJ7_rangeCheck_23922 3 none, Cond.methodLink RJ5 137 yJ2_fillNull_b72d1, Cond.static yJ2_fillNull_b72d1, Cond.code yJ2_fillNull_b72d1 cJ2_fillNull_b72d1 3 none]
def wsL_law_r28 : List Cond := [Cond.methodLink RJ2 380 yJ7_fill_eb02e, Cond.methodLink RX6 211 yJ4_append_bf812, Cond.instanceMethod yJ4_append_bf812, Cond.selects RJ4 yJ4_append_bf812 yJ4_append_bf812, Cond.code yJ4_append_bf812 cJ4_append_bf812 2 (some (.object "java/lang/StringBuilder")), Cond.methodLink RJ4 53 yJ5_append_c97b9, Cond.sameMethod "java/lang/AbstractStringBuilder" "java/lang/AbstractStringBuilder" "append" "(I)Ljava/lang/AbstractStringBuilder;", Cond.instanceMethod yJ5_append_c97b9, Cond.code yJ5_append_c97b9 cJ5_append_c97b9 4 (some (.object "java/lang/AbstractStringBuilder")), Cond.methodLink RJ5 245 yJ6_stringSize_0f7a4, Cond.static yJ6_stringSize_0f7a4, Cond.initialized RJ6, Cond.code yJ6_stringSize_0f7a4 cJ6_stringSize_0f7a4 4 (some .int), Cond.methodLink RJ5 248 yJ6_getChars_ba4f3, Cond.static yJ6_getChars_ba4f3, Cond.code yJ6_getChars_ba4f3 cJ6_getChars_ba4f3 7 (some .int), Cond.fieldLink RJ6 83 "java/lang/Integer" "DigitOnes" "[B", Cond.fieldLink RJ6 87 "java/lang/Integer" "DigitTens" "[B", Cond.methodLink RJ5 251 yJ2_getChars_46870, Cond.static yJ2_getChars_46870, Cond.code yJ2_getChars_46870 cJ2_getChars_46870 5 (some .int), Cond.fieldLink RJ2 44 "java/lang/StringUTF16" "$assertionsDisabled" "Z", Cond.methodLink RJ2 96 yJ2_checkBoundsBeginEnd_d044e, Cond.static yJ2_checkBoundsBeginEnd_d044e]
def wsL_law_r29 : List Cond := [Cond.code yJ2_checkBoundsBeginEnd_d044e cJ2_checkBoundsBeginEnd_d044e 3 none, Cond.methodLink RJ2 48 yJ2_length_9d52b, Cond.static yJ2_length_9d52b, Cond.code yJ2_length_9d52b cJ2_length_9d52b 1 (some .int), Cond.methodLink RJ2 241 yJ0_checkBoundsBeginEnd_23922, Cond.static yJ0_checkBoundsBeginEnd_23922, Cond.initialized RJ0, Cond.code yJ0_checkBoundsBeginEnd_23922 cJ0_checkBoundsBeginEnd_23922 3 none, Cond.fieldLink RJ0 1053 "jdk/internal/util/Preconditions" "SIOOBE_FORMATTER" "Ljava/util/function/BiFunction;", Cond.methodLink RJ0 1062 yJ3_checkFromToIndex_8c36e, Cond.static yJ3_checkFromToIndex_8c36e, Cond.initialized RJ3, Cond.code yJ3_checkFromToIndex_8c36e cJ3_checkFromToIndex_8c36e 4 (some .int), Cond.methodLink RJ2 393 yJ2_getChars_ba4f3, Cond.static yJ2_getChars_ba4f3, Cond.code yJ2_getChars_ba4f3 cJ2_getChars_ba4f3 7 (some .int), Cond.fieldLink RJ2 403 "java/lang/Integer" "DigitOnes" "[B", Cond.fieldLink RJ2 407 "java/lang/Integer" "DigitTens" "[B", Cond.methodLink RJ2 111 yJ2_putChar_b72d1, Cond.static yJ2_putChar_b72d1, Cond.code yJ2_putChar_b72d1 cJ2_putChar_b72d1 3 none, Cond.fieldLink RJ2 59 "java/lang/StringUTF16" "HI_BYTE_SHIFT" "I", Cond.fieldLink RJ2 63 "java/lang/StringUTF16" "LO_BYTE_SHIFT" "I", Cond.methodLink RX6 214 yJ4_append_cf468]
def wsL_law_r30 : List Cond := [Cond.instanceMethod yJ4_append_cf468, Cond.selects RJ4 yJ4_append_cf468 yJ4_append_cf468, Cond.code yJ4_append_cf468 cJ4_append_cf468 2 (some (.object "java/lang/StringBuilder")), Cond.methodLink RJ4 50 yJ5_append_3fe6f, Cond.sameMethod "java/lang/AbstractStringBuilder" "java/lang/AbstractStringBuilder" "append" "(C)Ljava/lang/AbstractStringBuilder;", Cond.instanceMethod yJ5_append_3fe6f, Cond.code yJ5_append_3fe6f cJ5_append_3fe6f 2 (some (.object "java/lang/AbstractStringBuilder")), Cond.methodLink RJ5 191 yJ1_canEncode_fc78d, Cond.static yJ1_canEncode_fc78d, Cond.code yJ1_canEncode_fc78d cJ1_canEncode_fc78d 1 (some .boolean), Cond.methodLink RJ5 195 ⟨"java/lang/AbstractStringBuilder", "inflate", "()V"⟩, Cond.sameMethod "java/lang/AbstractStringBuilder" "java/lang/AbstractStringBuilder" "inflate" "()V", Cond.selects RJ4 ⟨"java/lang/AbstractStringBuilder", "inflate", "()V"⟩ yJ5_inflate_da8c8, Cond.instanceMethod yJ5_inflate_da8c8, Cond.code yJ5_inflate_da8c8 cJ5_inflate_da8c8 2 none, Cond.methodLink RJ5 125 yJ1_inflate_0e8fd, Cond.static yJ1_inflate_0e8fd, Cond.code yJ1_inflate_0e8fd cJ1_inflate_0e8fd 5 none, Cond.methodLink RJ1 240 yJ2_inflate_0e8fd, Cond.static yJ2_inflate_0e8fd, Cond.code yJ2_inflate_0e8fd cJ2_inflate_0e8fd 6 none, Cond.methodLink RJ2 173 yJ2_checkBoundsOffCount_d044e, Cond.static yJ2_checkBoundsOffCount_d044e, Cond.code yJ2_checkBoundsOffCount_d044e cJ2_checkBoundsOffCount_d044e 3 none]
def wsL_law_r31 : List Cond := [Cond.methodLink RJ2 419 yJ0_checkBoundsOffCount_cabcc, Cond.static yJ0_checkBoundsOffCount_cabcc, Cond.code yJ0_checkBoundsOffCount_cabcc cJ0_checkBoundsOffCount_cabcc 3 (some .int), Cond.methodLink RJ0 1065 yJ3_checkFromIndexSize_8c36e, Cond.static yJ3_checkFromIndexSize_8c36e, Cond.code yJ3_checkFromIndexSize_8c36e cJ3_checkFromIndexSize_8c36e 4 (some .int), Cond.methodLink RJ5 197 yJ2_putCharSB_b72d1, Cond.static yJ2_putCharSB_b72d1, Cond.code yJ2_putCharSB_b72d1 cJ2_putCharSB_b72d1 3 none, Cond.methodLink RJ2 67 yJ2_checkIndex_2214a, Cond.static yJ2_checkIndex_2214a, Cond.code yJ2_checkIndex_2214a cJ2_checkIndex_2214a 2 none, Cond.methodLink RJ2 414 yJ0_checkIndex_df160, Cond.static yJ0_checkIndex_df160, Cond.code yJ0_checkIndex_df160 cJ0_checkIndex_df160 2 none, Cond.methodLink RJ0 1059 yJ3_checkIndex_8e157, Cond.static yJ3_checkIndex_8e157, Cond.code yJ3_checkIndex_8e157 cJ3_checkIndex_8e157 3 (some .int), Cond.methodLink RX6 217 yX6_wordOf, Cond.static yX6_wordOf, Cond.code yX6_wordOf cX6_wordOf 1 (some (.object "java/lang/String")), Cond.methodLink RX6 221 yJ4_append_15ec4, Cond.instanceMethod yJ4_append_15ec4, Cond.selects RJ4 yJ4_append_15ec4 yJ4_append_15ec4]
def wsL_law_r32 : List Cond := [Cond.code yJ4_append_15ec4 cJ4_append_15ec4 2 (some (.object "java/lang/StringBuilder")), Cond.methodLink RJ4 29 yJ5_append_cf1ce, Cond.sameMethod "java/lang/AbstractStringBuilder" "java/lang/AbstractStringBuilder" "append" "(Ljava/lang/String;)Ljava/lang/AbstractStringBuilder;", Cond.instanceMethod yJ5_append_cf1ce, Cond.code yJ5_append_cf1ce cJ5_append_cf1ce 3 (some (.object "java/lang/AbstractStringBuilder")), Cond.methodLink RJ5 204 ⟨"java/lang/AbstractStringBuilder", "appendNull", "()Ljava/lang/AbstractStringBuilder;"⟩, Cond.sameMethod "java/lang/AbstractStringBuilder" "java/lang/AbstractStringBuilder" "appendNull" "()Ljava/lang/AbstractStringBuilder;", Cond.selects RJ4 ⟨"java/lang/AbstractStringBuilder", "appendNull", "()Ljava/lang/AbstractStringBuilder;"⟩ yJ5_appendNull_278bc, Cond.instanceMethod yJ5_appendNull_278bc, Cond.code yJ5_appendNull_278bc cJ5_appendNull_278bc 3 (some (.object "java/lang/AbstractStringBuilder")), Cond.methodLink RJ5 226 yJ2_putCharsAt_cd4e5, Cond.static yJ2_putCharsAt_cd4e5, Cond.code yJ2_putCharsAt_cd4e5 cJ2_putCharsAt_cd4e5 7 (some .int), Cond.methodLink RJ5 32 yJ0_length_8abf5, Cond.instanceMethod yJ0_length_8abf5, Cond.selects RJ0 yJ0_length_8abf5 yJ0_length_8abf5, Cond.code yJ0_length_8abf5 cJ0_length_8abf5 1 (some .int), Cond.fieldLink RJ0 9 "java/lang/String" "value" "[B", Cond.methodLink RJ0 335 yJ0_coder_7d493, Cond.instanceMethod yJ0_coder_7d493, Cond.selects RJ0 yJ0_coder_7d493 yJ0_coder_7d493, Cond.code yJ0_coder_7d493 cJ0_coder_7d493 1 (some .byte), Cond.fieldLink RJ0 38 "java/lang/String" "COMPACT_STRINGS" "Z", Cond.fieldLink RJ0 15 "java/lang/String" "coder" "B"]
def wsL_law_r33 : List Cond := [Cond.methodLink RJ5 208 ⟨"java/lang/AbstractStringBuilder", "putStringAt", "(ILjava/lang/String;)V"⟩, Cond.sameMethod "java/lang/AbstractStringBuilder" "java/lang/AbstractStringBuilder" "putStringAt" "(ILjava/lang/String;)V", Cond.selects RJ4 ⟨"java/lang/AbstractStringBuilder", "putStringAt", "(ILjava/lang/String;)V"⟩ yJ5_putStringAt_47b60, Cond.instanceMethod yJ5_putStringAt_47b60, Cond.code yJ5_putStringAt_47b60 cJ5_putStringAt_47b60 3 none, Cond.methodLink RJ5 397 ⟨"java/lang/AbstractStringBuilder", "inflateIfNeededFor", "(Ljava/lang/String;)V"⟩, Cond.sameMethod "java/lang/AbstractStringBuilder" "java/lang/AbstractStringBuilder" "inflateIfNeededFor" "(Ljava/lang/String;)V", Cond.selects RJ4 ⟨"java/lang/AbstractStringBuilder", "inflateIfNeededFor", "(Ljava/lang/String;)V"⟩ yJ5_inflateIfNeededFor_a7421, Cond.instanceMethod yJ5_inflateIfNeededFor_a7421, Cond.code yJ5_inflateIfNeededFor_a7421 cJ5_inflateIfNeededFor_a7421 2 none, Cond.methodLink RJ5 40 yJ0_coder_7d493, Cond.methodLink RJ5 399 yJ0_getBytes_840e7, Cond.instanceMethod yJ0_getBytes_840e7, Cond.selects RJ0 yJ0_getBytes_840e7 yJ0_getBytes_840e7, Cond.code yJ0_getBytes_840e7 cJ0_getBytes_840e7 4 none, Cond.methodLink RJ0 212 arraycopyName, Cond.methodLink RJ0 106 yJ1_inflate_0e8fd, Cond.methodLink RX6 129 yJ4_length_8abf5, Cond.instanceMethod yJ4_length_8abf5, Cond.selects RJ4 yJ4_length_8abf5 yJ4_length_8abf5, Cond.code yJ4_length_8abf5 cJ4_length_8abf5 1 (some .int), Cond.methodLink RJ4 343 yJ5_length_8abf5, Cond.sameMethod "java/lang/AbstractStringBuilder" "java/lang/AbstractStringBuilder" "length" "()I", Cond.instanceMethod yJ5_length_8abf5]
def wsL_law_r34 : List Cond := [Cond.code yJ5_length_8abf5 cJ5_length_8abf5 1 (some .int), Cond.methodLink RL 75 yX7_entry, Cond.instanceMethod yX7_entry, Cond.selects RX7 yX7_entry yX7_entry, Cond.code yX7_entry cX7_entry 3 (some .int), Cond.methodLink RX7 165 yX7_isEntry, Cond.instanceMethod yX7_isEntry, Cond.selects RX7 yX7_isEntry yX7_isEntry, Cond.code yX7_isEntry cX7_isEntry 2 (some .boolean), Cond.methodLink RX7 168 yX7_lineLength, Cond.instanceMethod yX7_lineLength, Cond.selects RX7 yX7_lineLength yX7_lineLength, Cond.code yX7_lineLength cX7_lineLength 2 (some .int), Cond.methodLink RX7 54 yX7_entryPart, Cond.instanceMethod yX7_entryPart, Cond.selects RX7 yX7_entryPart yX7_entryPart, Cond.code yX7_entryPart cX7_entryPart 3 (some .int), Cond.methodLink RX7 58 yX7_digits, Cond.static yX7_digits, Cond.code yX7_digits cX7_digits 3 (some .int), Cond.methodLink RX7 62 yX7_letters, Cond.static yX7_letters, Cond.code yX7_letters cX7_letters 4 (some .int), Cond.methodLink RX7 50 yX7_word]
def wsL_law_r35 : List Cond := [Cond.static yX7_word, Cond.code yX7_word cX7_word 1 (some .long), Cond.constantLong RX7 38 (126918051980642), Cond.constantLong RX7 40 (126879565963632), Cond.constantLong RX7 42 (1935961701), Cond.constantLong RX7 44 (7234297646522852722), Cond.constantLong RX7 46 (495957668979), Cond.constantLong RX7 48 (2003790963), Cond.methodLink RL 76 yX6_lineAt, Cond.instanceMethod yX6_lineAt, Cond.selects RX6 yX6_lineAt yX6_lineAt, Cond.code yX6_lineAt cX6_lineAt 3 (some .int), Cond.methodLink RX6 132 yJ4_charAt_5068e, Cond.instanceMethod yJ4_charAt_5068e, Cond.selects RJ4 yJ4_charAt_5068e yJ4_charAt_5068e, Cond.code yJ4_charAt_5068e cJ4_charAt_5068e 2 (some .char), Cond.methodLink RJ4 329 yJ5_charAt_5068e, Cond.sameMethod "java/lang/AbstractStringBuilder" "java/lang/AbstractStringBuilder" "charAt" "(I)C", Cond.instanceMethod yJ5_charAt_5068e, Cond.code yJ5_charAt_5068e cJ5_charAt_5068e 5 (some .char), Cond.methodLink RJ5 138 Lib.Math.min.name, Cond.methodLink RJ5 144 yJ0_checkIndex_df160, Cond.methodLink RJ5 148 yJ2_getChar_3b067, Cond.static yJ2_getChar_3b067]
def wsL_law_r36 : List Cond := [Cond.code yJ2_getChar_3b067 cJ2_getChar_3b067 2 (some .char), Cond.methodLink RL 79 yX7_lineAt, Cond.instanceMethod yX7_lineAt, Cond.selects RX7 yX7_lineAt yX7_lineAt, Cond.code yX7_lineAt cX7_lineAt 3 (some .int), Cond.methodLink RX7 171 yX7_lineCharacter, Cond.instanceMethod yX7_lineCharacter, Cond.selects RX7 yX7_lineCharacter yX7_lineCharacter, Cond.code yX7_lineCharacter cX7_lineCharacter 7 (some .int), Cond.constantLong RX7 65 (255), Cond.methodLink RL 80 yX6_overdue, Cond.instanceMethod yX6_overdue, Cond.selects RX6 yX6_overdue yX6_overdue, Cond.code yX6_overdue cX6_overdue 1 (some .int), Cond.methodLink RX6 136 yX1_overdueSpans, Cond.instanceMethod yX1_overdueSpans, Cond.selects RX1 yX1_overdueSpans yX1_overdueSpans, Cond.code yX1_overdueSpans cX1_overdueSpans 3 (some .int), Cond.methodLink RL 83 yX7_overdue, Cond.instanceMethod yX7_overdue, Cond.selects RX7 yX7_overdue yX7_overdue, Cond.code yX7_overdue cX7_overdue 1 (some .int), Cond.methodLink RX7 174 yX7_overdueMany, Cond.instanceMethod yX7_overdueMany]
def wsL_law_r37 : List Cond := [Cond.selects RX7 yX7_overdueMany yX7_overdueMany, Cond.code yX7_overdueMany cX7_overdueMany 3 (some .int), Cond.methodLink RL 84 yX6_nextCheck, Cond.instanceMethod yX6_nextCheck, Cond.selects RX6 yX6_nextCheck yX6_nextCheck, Cond.code yX6_nextCheck cX6_nextCheck 1 (some .int), Cond.methodLink RX6 139 yX1_chooseSpan, Cond.methodLink RL 87 yX7_nextCheck, Cond.instanceMethod yX7_nextCheck, Cond.selects RX7 yX7_nextCheck yX7_nextCheck, Cond.code yX7_nextCheck cX7_nextCheck 1 (some .int), Cond.methodLink RL 88 yX6_checkedIn, Cond.instanceMethod yX6_checkedIn, Cond.selects RX6 yX6_checkedIn yX6_checkedIn, Cond.code yX6_checkedIn cX6_checkedIn 3 (some .int), Cond.methodLink RX6 142 yX1_copyFrom, Cond.methodLink RX6 145 yX1_passQuietTick, Cond.methodLink RL 91 yX7_checkedIn, Cond.instanceMethod yX7_checkedIn, Cond.selects RX7 yX7_checkedIn yX7_checkedIn, Cond.code yX7_checkedIn cX7_checkedIn 4 (some .int), Cond.methodLink RL 92 yX6_ifQuiet, Cond.instanceMethod yX6_ifQuiet, Cond.selects RX6 yX6_ifQuiet yX6_ifQuiet]
def wsL_law_r38 : List Cond := [Cond.code yX6_ifQuiet cX6_ifQuiet 2 (some .int), Cond.methodLink RX6 151 yX6_overdueAfter, Cond.instanceMethod yX6_overdueAfter, Cond.selects RX6 yX6_overdueAfter yX6_overdueAfter, Cond.code yX6_overdueAfter cX6_overdueAfter 4 (some .int), Cond.methodLink RL 95 yX7_ifQuiet, Cond.instanceMethod yX7_ifQuiet, Cond.selects RX7 yX7_ifQuiet yX7_ifQuiet, Cond.code yX7_ifQuiet cX7_ifQuiet 2 (some .int), Cond.methodLink RX7 177 yX7_overdueIn, Cond.instanceMethod yX7_overdueIn, Cond.selects RX7 yX7_overdueIn yX7_overdueIn, Cond.code yX7_overdueIn cX7_overdueIn 4 (some .int), Cond.methodLink RL 96 yX6_bestWay, Cond.instanceMethod yX6_bestWay, Cond.selects RX6 yX6_bestWay yX6_bestWay, Cond.code yX6_bestWay cX6_bestWay 6 (some .int), Cond.methodLink RL 99 yX7_bestWay, Cond.instanceMethod yX7_bestWay, Cond.selects RX7 yX7_bestWay yX7_bestWay, Cond.code yX7_bestWay cX7_bestWay 6 (some .int), Cond.methodLink RL 100 yX6_type, Cond.instanceMethod yX6_type, Cond.selects RX6 yX6_type yX6_type]
def wsL_law_r39 : List Cond := [Cond.code yX6_type cX6_type 2 (some .int), Cond.methodLink RX6 154 yX4_append, Cond.instanceMethod yX4_append, Cond.selects RX4 yX4_append yX4_append, Cond.code yX4_append cX4_append 2 (some .int), Cond.methodLink RL 103 yX7_type, Cond.instanceMethod yX7_type, Cond.selects RX7 yX7_type yX7_type, Cond.code yX7_type cX7_type 2 (some .int), Cond.fieldLink RX7 180 "QuietChecksModel" "textLength" "I", Cond.methodLink RL 104 yX6_clearText, Cond.instanceMethod yX6_clearText, Cond.selects RX6 yX6_clearText yX6_clearText, Cond.code yX6_clearText cX6_clearText 1 (some .int), Cond.methodLink RX6 157 yX4_clear, Cond.instanceMethod yX4_clear, Cond.selects RX4 yX4_clear yX4_clear, Cond.code yX4_clear cX4_clear 2 (some .int), Cond.methodLink RL 107 yX7_clearText, Cond.instanceMethod yX7_clearText, Cond.selects RX7 yX7_clearText yX7_clearText, Cond.code yX7_clearText cX7_clearText 2 (some .int), Cond.methodLink RL 108 yX6_syntaxError, Cond.instanceMethod yX6_syntaxError]
def wsL_law_r40 : List Cond := [Cond.selects RX6 yX6_syntaxError yX6_syntaxError, Cond.code yX6_syntaxError cX6_syntaxError 1 (some .int), Cond.methodLink RX6 160 yX4_findError, Cond.instanceMethod yX4_findError, Cond.selects RX4 yX4_findError yX4_findError, Cond.code yX4_findError cX4_findError 1 (some .int), Cond.methodLink RX4 38 yX4_takeCommand, Cond.instanceMethod yX4_takeCommand, Cond.selects RX4 yX4_takeCommand yX4_takeCommand, Cond.code yX4_takeCommand cX4_takeCommand 2 (some .boolean), Cond.methodLink RX4 46 yX4_sign, Cond.instanceMethod yX4_sign, Cond.selects RX4 yX4_sign yX4_sign, Cond.code yX4_sign cX4_sign 1 (some .char), Cond.methodLink RX4 52 yX4_takeWord, Cond.instanceMethod yX4_takeWord, Cond.selects RX4 yX4_takeWord yX4_takeWord, Cond.code yX4_takeWord cX4_takeWord 3 (some .boolean), Cond.methodLink RX4 85 yJ0_length_8abf5, Cond.methodLink RX4 90 yJ0_charAt_5068e, Cond.instanceMethod yJ0_charAt_5068e, Cond.selects RJ0 yJ0_charAt_5068e yJ0_charAt_5068e, Cond.code yJ0_charAt_5068e cJ0_charAt_5068e 2 (some .char), Cond.methodLink RJ0 492 yJ0_isLatin1_aae02]
def wsL_law_r41 : List Cond := [Cond.instanceMethod yJ0_isLatin1_aae02, Cond.selects RJ0 yJ0_isLatin1_aae02 yJ0_isLatin1_aae02, Cond.code yJ0_isLatin1_aae02 cJ0_isLatin1_aae02 1 (some .boolean), Cond.methodLink RJ0 495 yJ1_charAt_3b067, Cond.static yJ1_charAt_3b067, Cond.code yJ1_charAt_3b067 cJ1_charAt_3b067 2 (some .char), Cond.methodLink RJ1 9 yJ0_checkIndex_df160, Cond.methodLink RJ0 498 yJ2_charAt_3b067, Cond.static yJ2_charAt_3b067, Cond.code yJ2_charAt_3b067 cJ2_charAt_3b067 2 (some .char), Cond.methodLink RJ2 71 yJ2_getChar_3b067, Cond.methodLink RX4 42 yX4_takeSign, Cond.instanceMethod yX4_takeSign, Cond.selects RX4 yX4_takeSign yX4_takeSign, Cond.code yX4_takeSign cX4_takeSign 2 (some .boolean), Cond.methodLink RX4 56 yX4_takeSpan, Cond.instanceMethod yX4_takeSpan, Cond.selects RX4 yX4_takeSpan yX4_takeSpan, Cond.code yX4_takeSpan cX4_takeSpan 1 (some .boolean), Cond.methodLink RX4 76 yX4_takeDigit, Cond.instanceMethod yX4_takeDigit, Cond.selects RX4 yX4_takeDigit yX4_takeDigit, Cond.code yX4_takeDigit cX4_takeDigit 4 (some .boolean), Cond.methodLink RX4 60 yX4_note]
def wsL_law_r42 : List Cond := [Cond.instanceMethod yX4_note, Cond.selects RX4 yX4_note yX4_note, Cond.code yX4_note cX4_note 3 (some .boolean), Cond.methodLink RX4 64 yX4_takeNumber, Cond.instanceMethod yX4_takeNumber, Cond.selects RX4 yX4_takeNumber yX4_takeNumber, Cond.code yX4_takeNumber cX4_takeNumber 3 (some .boolean), Cond.methodLink RX4 67 yX4_noteSecond, Cond.instanceMethod yX4_noteSecond, Cond.selects RX4 yX4_noteSecond yX4_noteSecond, Cond.code yX4_noteSecond cX4_noteSecond 2 (some .boolean), Cond.methodLink RX4 82 yX4_takeWay, Cond.instanceMethod yX4_takeWay, Cond.selects RX4 yX4_takeWay yX4_takeWay, Cond.code yX4_takeWay cX4_takeWay 1 (some .boolean), Cond.methodLink RL 111 yX7_syntaxError, Cond.instanceMethod yX7_syntaxError, Cond.selects RX7 yX7_syntaxError yX7_syntaxError, Cond.code yX7_syntaxError cX7_syntaxError 1 (some .int), Cond.methodLink RX7 240 yX7_findError, Cond.instanceMethod yX7_findError, Cond.selects RX7 yX7_findError yX7_findError, Cond.code yX7_findError cX7_findError 1 (some .int), Cond.fieldLink RX7 183 "QuietChecksModel" "at" "I"]
def wsL_law_r43 : List Cond := [Cond.methodLink RX7 237 yX7_readsCommand, Cond.instanceMethod yX7_readsCommand, Cond.selects RX7 yX7_readsCommand yX7_readsCommand, Cond.code yX7_readsCommand cX7_readsCommand 2 (some .boolean), Cond.fieldLink RX7 214 "QuietChecksModel" "command" "I", Cond.constantLong RX7 217 (139123058034), Cond.fieldLink RX7 192 "QuietChecksModel" "number" "I", Cond.fieldLink RX7 201 "QuietChecksModel" "two" "I", Cond.constantLong RX7 226 (35684289705329), Cond.constantLong RX7 228 (543912801), Cond.constantLong RX7 230 (139392413811), Cond.constantLong RX7 232 (544825719), Cond.methodLink RX7 186 yX7_character, Cond.instanceMethod yX7_character, Cond.selects RX7 yX7_character yX7_character, Cond.code yX7_character cX7_character 2 (some .int), Cond.methodLink RX7 210 yX7_readsWord, Cond.instanceMethod yX7_readsWord, Cond.selects RX7 yX7_readsWord yX7_readsWord, Cond.code yX7_readsWord cX7_readsWord 6 (some .boolean), Cond.methodLink RX7 189 yX7_isNext, Cond.instanceMethod yX7_isNext, Cond.selects RX7 yX7_isNext yX7_isNext, Cond.code yX7_isNext cX7_isNext 3 (some .boolean)]
def wsL_law_r44 : List Cond := [Cond.methodLink RX7 219 yX7_readsSpan, Cond.instanceMethod yX7_readsSpan, Cond.selects RX7 yX7_readsSpan yX7_readsSpan, Cond.code yX7_readsSpan cX7_readsSpan 2 (some .boolean), Cond.fieldLink RX7 198 "QuietChecksModel" "one" "I", Cond.methodLink RX7 195 yX7_readsDigit, Cond.instanceMethod yX7_readsDigit, Cond.selects RX7 yX7_readsDigit yX7_readsDigit, Cond.code yX7_readsDigit cX7_readsDigit 4 (some .boolean), Cond.methodLink RX7 223 yX7_readsNumber, Cond.instanceMethod yX7_readsNumber, Cond.selects RX7 yX7_readsNumber yX7_readsNumber, Cond.code yX7_readsNumber cX7_readsNumber 2 (some .boolean), Cond.methodLink RX7 234 yX7_readsWay, Cond.instanceMethod yX7_readsWay, Cond.selects RX7 yX7_readsWay yX7_readsWay, Cond.code yX7_readsWay cX7_readsWay 2 (some .boolean), Cond.constantLong RX7 204 (128038971141231), Cond.constantLong RX7 206 (500153085815), Cond.constantLong RX7 208 (7827314), Cond.methodLink RL 112 yX6_carryOut, Cond.instanceMethod yX6_carryOut, Cond.selects RX6 yX6_carryOut yX6_carryOut, Cond.code yX6_carryOut cX6_carryOut 3 (some .int)]
def wsL_law_r45 : List Cond := [Cond.methodLink RX6 166 yX6_doCommand, Cond.instanceMethod yX6_doCommand, Cond.selects RX6 yX6_doCommand yX6_doCommand, Cond.code yX6_doCommand cX6_doCommand 4 (some .int), Cond.methodLink RL 115 yX7_carryOut, Cond.instanceMethod yX7_carryOut, Cond.selects RX7 yX7_carryOut yX7_carryOut, Cond.code yX7_carryOut cX7_carryOut 3 (some .int), Cond.methodLink RX7 243 yX7_whyNotDone, Cond.instanceMethod yX7_whyNotDone, Cond.selects RX7 yX7_whyNotDone yX7_whyNotDone, Cond.code yX7_whyNotDone cX7_whyNotDone 1 (some .int), Cond.methodLink RX7 246 yX7_does, Cond.instanceMethod yX7_does, Cond.selects RX7 yX7_does yX7_does, Cond.code yX7_does cX7_does 1 none, Cond.methodLink RL 116 yX6_undo, Cond.instanceMethod yX6_undo, Cond.selects RX6 yX6_undo yX6_undo, Cond.code yX6_undo cX6_undo 1 (some .int), Cond.methodLink RX6 169 yX2_restore, Cond.instanceMethod yX2_restore, Cond.selects RX2 yX2_restore yX2_restore, Cond.code yX2_restore cX2_restore 3 (some .int)]
def wsL_law_r46 : List Cond := [Cond.methodLink RL 119 yX7_undo, Cond.instanceMethod yX7_undo, Cond.selects RX7 yX7_undo yX7_undo, Cond.code yX7_undo cX7_undo 1 (some .int), Cond.methodLink RL 120 yX6_digest, Cond.instanceMethod yX6_digest, Cond.selects RX6 yX6_digest yX6_digest, Cond.code yX6_digest cX6_digest 4 (some .long), Cond.constantLong RX6 173 (448), Cond.constantLong RX6 175 (31), Cond.methodLink RX6 177 yX6_count, Cond.methodLink RX6 180 yX6_setting, Cond.methodLink RX6 183 yX6_hashSpan, Cond.instanceMethod yX6_hashSpan, Cond.selects RX6 yX6_hashSpan yX6_hashSpan, Cond.code yX6_hashSpan cX6_hashSpan 8 (some .long), Cond.methodLink RX6 199 yX6_span, Cond.methodLink RX6 202 yX5_sizeOf, Cond.methodLink RX6 205 yX6_tries, Cond.methodLink RX6 187 yX6_entries, Cond.methodLink RX6 190 yX6_hashEntry, Cond.instanceMethod yX6_hashEntry, Cond.selects RX6 yX6_hashEntry yX6_hashEntry, Cond.code yX6_hashEntry cX6_hashEntry 7 (some .long)]
def wsL_law_r47 : List Cond := [Cond.methodLink RX6 193 yX6_overdue, Cond.methodLink RX6 196 yX6_nextCheck, Cond.methodLink RL 124 yX7_digest, Cond.instanceMethod yX7_digest, Cond.selects RX7 yX7_digest yX7_digest, Cond.code yX7_digest cX7_digest 5 (some .long), Cond.constantLong RX7 249 (448), Cond.constantLong RX7 251 (31)]
def wsL_law : List Cond := (wsL_law_r1 ++ (wsL_law_r2 ++ (wsL_law_r3 ++ (wsL_law_r4 ++ (wsL_law_r5 ++ (wsL_law_r6 ++ (wsL_law_r7 ++ (wsL_law_r8 ++ (wsL_law_r9 ++ (wsL_law_r10 ++ (wsL_law_r11 ++ (wsL_law_r12 ++ (wsL_law_r13 ++ (wsL_law_r14 ++ (wsL_law_r15 ++ (wsL_law_r16 ++ (wsL_law_r17 ++ (wsL_law_r18 ++ (wsL_law_r19 ++ (wsL_law_r20 ++ (wsL_law_r21 ++ (wsL_law_r22 ++ (wsL_law_r23 ++ (wsL_law_r24 ++ (wsL_law_r25 ++ (wsL_law_r26 ++ (wsL_law_r27 ++ (wsL_law_r28 ++ (wsL_law_r29 ++ (wsL_law_r30 ++ (wsL_law_r31 ++ (wsL_law_r32 ++ (wsL_law_r33 ++ (wsL_law_r34 ++ (wsL_law_r35 ++ (wsL_law_r36 ++ (wsL_law_r37 ++ (wsL_law_r38 ++ (wsL_law_r39 ++ (wsL_law_r40 ++ (wsL_law_r41 ++ (wsL_law_r42 ++ (wsL_law_r43 ++ (wsL_law_r44 ++ (wsL_law_r45 ++ (wsL_law_r46 ++ wsL_law_r47)))))))))))))))))))))))))))))))))))))))))))))) ++ wsX60 ++ wsX70 ++ wsX10 ++ wsX20 ++ wsX40 ++ wsJ40 ++ wsX50 ++ wsX00 ++ wsX30 ++ ([] : List Cond)
set_option maxRecDepth 20000 in
theorem inlX0 : ∀ w ∈ wsX00, w ∈ wsL_law := fun _ h => List.mem_append_left _ (List.mem_append_left _ (List.mem_append_right _ h))
theorem inlX1 : ∀ w ∈ wsX10, w ∈ wsL_law := fun _ h => List.mem_append_left _ (List.mem_append_left _ (List.mem_append_left _ (List.mem_append_left _ (List.mem_append_left _ (List.mem_append_left _ (List.mem_append_left _ (List.mem_append_right _ h)))))))
theorem inlX2 : ∀ w ∈ wsX20, w ∈ wsL_law := fun _ h => List.mem_append_left _ (List.mem_append_left _ (List.mem_append_left _ (List.mem_append_left _ (List.mem_append_left _ (List.mem_append_left _ (List.mem_append_right _ h))))))
theorem inlX3 : ∀ w ∈ wsX30, w ∈ wsL_law := fun _ h => List.mem_append_left _ (List.mem_append_right _ h)
theorem inlX4 : ∀ w ∈ wsX40, w ∈ wsL_law := fun _ h => List.mem_append_left _ (List.mem_append_left _ (List.mem_append_left _ (List.mem_append_left _ (List.mem_append_left _ (List.mem_append_right _ h)))))
theorem inlX5 : ∀ w ∈ wsX50, w ∈ wsL_law := fun _ h => List.mem_append_left _ (List.mem_append_left _ (List.mem_append_left _ (List.mem_append_right _ h)))
theorem inlX6 : ∀ w ∈ wsX60, w ∈ wsL_law := fun _ h => List.mem_append_left _ (List.mem_append_left _ (List.mem_append_left _ (List.mem_append_left _ (List.mem_append_left _ (List.mem_append_left _ (List.mem_append_left _ (List.mem_append_left _ (List.mem_append_left _ (List.mem_append_right _ h)))))))))
theorem inlX7 : ∀ w ∈ wsX70, w ∈ wsL_law := fun _ h => List.mem_append_left _ (List.mem_append_left _ (List.mem_append_left _ (List.mem_append_left _ (List.mem_append_left _ (List.mem_append_left _ (List.mem_append_left _ (List.mem_append_left _ (List.mem_append_right _ h))))))))
theorem inlJ4 : ∀ w ∈ wsJ40, w ∈ wsL_law := fun _ h => List.mem_append_left _ (List.mem_append_left _ (List.mem_append_left _ (List.mem_append_left _ (List.mem_append_right _ h))))
abbrev vwCl : List vw_C := [(RJ4, TJ4, 4), (RX0, TX0, 2), (RX1, TX1, 17), (RX2, TX2, 2), (RX3, TX3, 5), (RX4, TX4, 8), (RX5, TX5, 3), (RX6, TX6, 5), (RX7, TX7, 11)]
end
section
theorem dX0_init_0 : decode cX0_init 0 = .ok (.aload_n 0, 1) := by decide +kernel
theorem dX0_init_1 : decode cX0_init 1 = .ok (.invokespecial 3, 3) := by decide +kernel
theorem dX0_init_4 : decode cX0_init 4 = .ok (.aload_n 0, 1) := by decide +kernel
theorem dX0_init_5 : decode cX0_init 5 = .ok (.bipush 6, 2) := by decide +kernel
theorem dX0_init_7 : decode cX0_init 7 = .ok (.newarray .int, 2) := by decide +kernel
theorem dX0_init_9 : decode cX0_init 9 = .ok (.putfield 9, 3) := by decide +kernel
theorem dX0_init_12 : decode cX0_init 12 = .ok (.aload_n 0, 1) := by decide +kernel
theorem dX0_init_13 : decode cX0_init 13 = .ok (.iconst 0, 1) := by decide +kernel
theorem dX0_init_14 : decode cX0_init 14 = .ok (.putfield 15, 3) := by decide +kernel
theorem dX0_init_17 : decode cX0_init 17 = .ok (.return_, 1) := by decide +kernel
theorem dX0_copyFrom_0 : decode cX0_copyFrom 0 = .ok (.aload_n 1, 1) := by decide +kernel
theorem dX0_copyFrom_1 : decode cX0_copyFrom 1 = .ok (.getfield 9, 3) := by decide +kernel
theorem dX0_copyFrom_4 : decode cX0_copyFrom 4 = .ok (.iconst 0, 1) := by decide +kernel
theorem dX0_copyFrom_5 : decode cX0_copyFrom 5 = .ok (.aload_n 0, 1) := by decide +kernel
theorem dX0_copyFrom_6 : decode cX0_copyFrom 6 = .ok (.getfield 9, 3) := by decide +kernel
theorem dX0_copyFrom_9 : decode cX0_copyFrom 9 = .ok (.iconst 0, 1) := by decide +kernel
theorem dX0_copyFrom_10 : decode cX0_copyFrom 10 = .ok (.bipush 6, 2) := by decide +kernel
theorem dX0_copyFrom_12 : decode cX0_copyFrom 12 = .ok (.invokestatic 19, 3) := by decide +kernel
theorem dX0_copyFrom_15 : decode cX0_copyFrom 15 = .ok (.aload_n 0, 1) := by decide +kernel
theorem dX0_copyFrom_16 : decode cX0_copyFrom 16 = .ok (.aload_n 1, 1) := by decide +kernel
theorem dX0_copyFrom_17 : decode cX0_copyFrom 17 = .ok (.getfield 15, 3) := by decide +kernel
theorem dX0_copyFrom_20 : decode cX0_copyFrom 20 = .ok (.putfield 15, 3) := by decide +kernel
theorem dX0_copyFrom_23 : decode cX0_copyFrom 23 = .ok (.return_, 1) := by decide +kernel
theorem dX0_placeOf_0 : decode cX0_placeOf 0 = .ok (.iconst 0, 1) := by decide +kernel
theorem dX0_placeOf_1 : decode cX0_placeOf 1 = .ok (.istore_n 2, 1) := by decide +kernel
theorem dX0_placeOf_2 : decode cX0_placeOf 2 = .ok (.iload_n 2, 1) := by decide +kernel
theorem dX0_placeOf_3 : decode cX0_placeOf 3 = .ok (.aload_n 0, 1) := by decide +kernel
theorem dX0_placeOf_4 : decode cX0_placeOf 4 = .ok (.getfield 15, 3) := by decide +kernel
theorem dX0_placeOf_7 : decode cX0_placeOf 7 = .ok (.if_icmp .ge 21, 3) := by decide +kernel
theorem dX0_placeOf_10 : decode cX0_placeOf 10 = .ok (.aload_n 0, 1) := by decide +kernel
theorem dX0_placeOf_11 : decode cX0_placeOf 11 = .ok (.getfield 9, 3) := by decide +kernel
theorem dX0_placeOf_14 : decode cX0_placeOf 14 = .ok (.iload_n 2, 1) := by decide +kernel
theorem dX0_placeOf_15 : decode cX0_placeOf 15 = .ok (.iaload, 1) := by decide +kernel
theorem dX0_placeOf_16 : decode cX0_placeOf 16 = .ok (.iload_n 1, 1) := by decide +kernel
theorem dX0_placeOf_17 : decode cX0_placeOf 17 = .ok (.if_icmp .ne 5, 3) := by decide +kernel
theorem dX0_placeOf_20 : decode cX0_placeOf 20 = .ok (.iload_n 2, 1) := by decide +kernel
theorem dX0_placeOf_21 : decode cX0_placeOf 21 = .ok (.ireturn, 1) := by decide +kernel
theorem dX0_placeOf_22 : decode cX0_placeOf 22 = .ok (.iinc 2 1, 3) := by decide +kernel
theorem dX0_placeOf_25 : decode cX0_placeOf 25 = .ok (.goto (-23), 3) := by decide +kernel
theorem dX0_placeOf_28 : decode cX0_placeOf 28 = .ok (.bipush (-6), 2) := by decide +kernel
theorem dX0_placeOf_30 : decode cX0_placeOf 30 = .ok (.ireturn, 1) := by decide +kernel
theorem dX0_append_0 : decode cX0_append 0 = .ok (.aload_n 0, 1) := by decide +kernel
theorem dX0_append_1 : decode cX0_append 1 = .ok (.getfield 15, 3) := by decide +kernel
theorem dX0_append_4 : decode cX0_append 4 = .ok (.bipush 6, 2) := by decide +kernel
theorem dX0_append_6 : decode cX0_append 6 = .ok (.if_icmp .lt 5, 3) := by decide +kernel
theorem dX0_append_9 : decode cX0_append 9 = .ok (.iconst 0, 1) := by decide +kernel
theorem dX0_append_10 : decode cX0_append 10 = .ok (.ireturn, 1) := by decide +kernel
theorem dX0_append_11 : decode cX0_append 11 = .ok (.aload_n 0, 1) := by decide +kernel
theorem dX0_append_12 : decode cX0_append 12 = .ok (.getfield 9, 3) := by decide +kernel
theorem dX0_append_15 : decode cX0_append 15 = .ok (.aload_n 0, 1) := by decide +kernel
theorem dX0_append_16 : decode cX0_append 16 = .ok (.getfield 15, 3) := by decide +kernel
theorem dX0_append_19 : decode cX0_append 19 = .ok (.iload_n 1, 1) := by decide +kernel
theorem dX0_append_20 : decode cX0_append 20 = .ok (.iastore, 1) := by decide +kernel
theorem dX0_append_21 : decode cX0_append 21 = .ok (.aload_n 0, 1) := by decide +kernel
theorem dX0_append_22 : decode cX0_append 22 = .ok (.dup, 1) := by decide +kernel
theorem dX0_append_23 : decode cX0_append 23 = .ok (.getfield 15, 3) := by decide +kernel
theorem dX0_append_26 : decode cX0_append 26 = .ok (.iconst 1, 1) := by decide +kernel
theorem dX0_append_27 : decode cX0_append 27 = .ok (.iadd, 1) := by decide +kernel
theorem dX0_append_28 : decode cX0_append 28 = .ok (.putfield 15, 3) := by decide +kernel
theorem dX0_append_31 : decode cX0_append 31 = .ok (.iconst 1, 1) := by decide +kernel
theorem dX0_append_32 : decode cX0_append 32 = .ok (.ireturn, 1) := by decide +kernel
theorem dX0_drop_0 : decode cX0_drop 0 = .ok (.aload_n 0, 1) := by decide +kernel
theorem dX0_drop_1 : decode cX0_drop 1 = .ok (.iload_n 1, 1) := by decide +kernel
theorem dX0_drop_2 : decode cX0_drop 2 = .ok (.invokevirtual 25, 3) := by decide +kernel
theorem dX0_drop_5 : decode cX0_drop 5 = .ok (.istore_n 2, 1) := by decide +kernel
theorem dX0_drop_6 : decode cX0_drop 6 = .ok (.iload_n 2, 1) := by decide +kernel
theorem dX0_drop_7 : decode cX0_drop 7 = .ok (.bipush (-6), 2) := by decide +kernel
theorem dX0_drop_9 : decode cX0_drop 9 = .ok (.if_icmp .ne 5, 3) := by decide +kernel
theorem dX0_drop_12 : decode cX0_drop 12 = .ok (.iconst 0, 1) := by decide +kernel
theorem dX0_drop_13 : decode cX0_drop 13 = .ok (.ireturn, 1) := by decide +kernel
theorem dX0_drop_14 : decode cX0_drop 14 = .ok (.iload_n 2, 1) := by decide +kernel
theorem dX0_drop_15 : decode cX0_drop 15 = .ok (.iconst 1, 1) := by decide +kernel
theorem dX0_drop_16 : decode cX0_drop 16 = .ok (.iadd, 1) := by decide +kernel
theorem dX0_drop_17 : decode cX0_drop 17 = .ok (.istore_n 3, 1) := by decide +kernel
theorem dX0_drop_18 : decode cX0_drop 18 = .ok (.iload_n 3, 1) := by decide +kernel
theorem dX0_drop_19 : decode cX0_drop 19 = .ok (.aload_n 0, 1) := by decide +kernel
theorem dX0_drop_20 : decode cX0_drop 20 = .ok (.getfield 15, 3) := by decide +kernel
theorem dX0_drop_23 : decode cX0_drop 23 = .ok (.if_icmp .ge 23, 3) := by decide +kernel
theorem dX0_drop_26 : decode cX0_drop 26 = .ok (.aload_n 0, 1) := by decide +kernel
theorem dX0_drop_27 : decode cX0_drop 27 = .ok (.getfield 9, 3) := by decide +kernel
theorem dX0_drop_30 : decode cX0_drop 30 = .ok (.iload_n 3, 1) := by decide +kernel
theorem dX0_drop_31 : decode cX0_drop 31 = .ok (.iconst 1, 1) := by decide +kernel
theorem dX0_drop_32 : decode cX0_drop 32 = .ok (.isub, 1) := by decide +kernel
theorem dX0_drop_33 : decode cX0_drop 33 = .ok (.aload_n 0, 1) := by decide +kernel
theorem dX0_drop_34 : decode cX0_drop 34 = .ok (.getfield 9, 3) := by decide +kernel
theorem dX0_drop_37 : decode cX0_drop 37 = .ok (.iload_n 3, 1) := by decide +kernel
theorem dX0_drop_38 : decode cX0_drop 38 = .ok (.iaload, 1) := by decide +kernel
theorem dX0_drop_39 : decode cX0_drop 39 = .ok (.iastore, 1) := by decide +kernel
theorem dX0_drop_40 : decode cX0_drop 40 = .ok (.iinc 3 1, 3) := by decide +kernel
theorem dX0_drop_43 : decode cX0_drop 43 = .ok (.goto (-25), 3) := by decide +kernel
theorem dX0_drop_46 : decode cX0_drop 46 = .ok (.aload_n 0, 1) := by decide +kernel
theorem dX0_drop_47 : decode cX0_drop 47 = .ok (.dup, 1) := by decide +kernel
theorem dX0_drop_48 : decode cX0_drop 48 = .ok (.getfield 15, 3) := by decide +kernel
theorem dX0_drop_51 : decode cX0_drop 51 = .ok (.iconst 1, 1) := by decide +kernel
theorem dX0_drop_52 : decode cX0_drop 52 = .ok (.isub, 1) := by decide +kernel
theorem dX0_drop_53 : decode cX0_drop 53 = .ok (.putfield 15, 3) := by decide +kernel
theorem dX0_drop_56 : decode cX0_drop 56 = .ok (.iconst 1, 1) := by decide +kernel
theorem dX0_drop_57 : decode cX0_drop 57 = .ok (.ireturn, 1) := by decide +kernel
theorem dX1_init_0 : decode cX1_init 0 = .ok (.aload_n 0, 1) := by decide +kernel
theorem dX1_init_1 : decode cX1_init 1 = .ok (.invokespecial 3, 3) := by decide +kernel
theorem dX1_init_4 : decode cX1_init 4 = .ok (.aload_n 0, 1) := by decide +kernel
theorem dX1_init_5 : decode cX1_init 5 = .ok (.iconst 5, 1) := by decide +kernel
theorem dX1_init_6 : decode cX1_init 6 = .ok (.newarray .int, 2) := by decide +kernel
theorem dX1_init_8 : decode cX1_init 8 = .ok (.putfield 9, 3) := by decide +kernel
theorem dX1_init_11 : decode cX1_init 11 = .ok (.aload_n 0, 1) := by decide +kernel
theorem dX1_init_12 : decode cX1_init 12 = .ok (.bipush 8, 2) := by decide +kernel
theorem dX1_init_14 : decode cX1_init 14 = .ok (.newarray .int, 2) := by decide +kernel
theorem dX1_init_16 : decode cX1_init 16 = .ok (.putfield 15, 3) := by decide +kernel
theorem dX1_init_19 : decode cX1_init 19 = .ok (.aload_n 0, 1) := by decide +kernel
theorem dX1_init_20 : decode cX1_init 20 = .ok (.new 18, 3) := by decide +kernel
theorem dX1_init_23 : decode cX1_init 23 = .ok (.dup, 1) := by decide +kernel
theorem dX1_init_24 : decode cX1_init 24 = .ok (.invokespecial 20, 3) := by decide +kernel
theorem dX1_init_27 : decode cX1_init 27 = .ok (.putfield 21, 3) := by decide +kernel
theorem dX1_init_30 : decode cX1_init 30 = .ok (.aload_n 0, 1) := by decide +kernel
theorem dX1_init_31 : decode cX1_init 31 = .ok (.new 25, 3) := by decide +kernel
theorem dX1_init_34 : decode cX1_init 34 = .ok (.dup, 1) := by decide +kernel
theorem dX1_init_35 : decode cX1_init 35 = .ok (.invokespecial 27, 3) := by decide +kernel
theorem dX1_init_38 : decode cX1_init 38 = .ok (.putfield 28, 3) := by decide +kernel
theorem dX1_init_41 : decode cX1_init 41 = .ok (.aload_n 0, 1) := by decide +kernel
theorem dX1_init_42 : decode cX1_init 42 = .ok (.new 32, 3) := by decide +kernel
theorem dX1_init_45 : decode cX1_init 45 = .ok (.dup, 1) := by decide +kernel
theorem dX1_init_46 : decode cX1_init 46 = .ok (.invokespecial 34, 3) := by decide +kernel
theorem dX1_init_49 : decode cX1_init 49 = .ok (.putfield 35, 3) := by decide +kernel
theorem dX1_init_52 : decode cX1_init 52 = .ok (.aload_n 0, 1) := by decide +kernel
theorem dX1_init_53 : decode cX1_init 53 = .ok (.iconst 0, 1) := by decide +kernel
theorem dX1_init_54 : decode cX1_init 54 = .ok (.putfield 39, 3) := by decide +kernel
theorem dX1_init_57 : decode cX1_init 57 = .ok (.aload_n 0, 1) := by decide +kernel
theorem dX1_init_58 : decode cX1_init 58 = .ok (.bipush 6, 2) := by decide +kernel
theorem dX1_init_60 : decode cX1_init 60 = .ok (.putfield 43, 3) := by decide +kernel
theorem dX1_init_63 : decode cX1_init 63 = .ok (.aload_n 0, 1) := by decide +kernel
theorem dX1_init_64 : decode cX1_init 64 = .ok (.iconst 0, 1) := by decide +kernel
theorem dX1_init_65 : decode cX1_init 65 = .ok (.putfield 46, 3) := by decide +kernel
theorem dX1_init_68 : decode cX1_init 68 = .ok (.aload_n 0, 1) := by decide +kernel
theorem dX1_init_69 : decode cX1_init 69 = .ok (.iconst 0, 1) := by decide +kernel
theorem dX1_init_70 : decode cX1_init 70 = .ok (.putfield 49, 3) := by decide +kernel
theorem dX1_init_73 : decode cX1_init 73 = .ok (.aload_n 0, 1) := by decide +kernel
theorem dX1_init_74 : decode cX1_init 74 = .ok (.bipush (-6), 2) := by decide +kernel
theorem dX1_init_76 : decode cX1_init 76 = .ok (.putfield 52, 3) := by decide +kernel
theorem dX1_init_79 : decode cX1_init 79 = .ok (.aload_n 0, 1) := by decide +kernel
theorem dX1_init_80 : decode cX1_init 80 = .ok (.iconst 0, 1) := by decide +kernel
theorem dX1_init_81 : decode cX1_init 81 = .ok (.putfield 55, 3) := by decide +kernel
theorem dX1_init_84 : decode cX1_init 84 = .ok (.aload_n 0, 1) := by decide +kernel
theorem dX1_init_85 : decode cX1_init 85 = .ok (.iconst 0, 1) := by decide +kernel
theorem dX1_init_86 : decode cX1_init 86 = .ok (.putfield 58, 3) := by decide +kernel
theorem dX1_init_89 : decode cX1_init 89 = .ok (.aload_n 0, 1) := by decide +kernel
theorem dX1_init_90 : decode cX1_init 90 = .ok (.iconst 0, 1) := by decide +kernel
theorem dX1_init_91 : decode cX1_init 91 = .ok (.putfield 61, 3) := by decide +kernel
theorem dX1_init_94 : decode cX1_init 94 = .ok (.aload_n 0, 1) := by decide +kernel
theorem dX1_init_95 : decode cX1_init 95 = .ok (.iconst 0, 1) := by decide +kernel
theorem dX1_init_96 : decode cX1_init 96 = .ok (.putfield 64, 3) := by decide +kernel
theorem dX1_init_99 : decode cX1_init 99 = .ok (.aload_n 0, 1) := by decide +kernel
theorem dX1_init_100 : decode cX1_init 100 = .ok (.iconst 0, 1) := by decide +kernel
theorem dX1_init_101 : decode cX1_init 101 = .ok (.putfield 67, 3) := by decide +kernel
theorem dX1_init_104 : decode cX1_init 104 = .ok (.aload_n 0, 1) := by decide +kernel
theorem dX1_init_105 : decode cX1_init 105 = .ok (.iconst 0, 1) := by decide +kernel
theorem dX1_init_106 : decode cX1_init 106 = .ok (.putfield 70, 3) := by decide +kernel
theorem dX1_init_109 : decode cX1_init 109 = .ok (.aload_n 0, 1) := by decide +kernel
theorem dX1_init_110 : decode cX1_init 110 = .ok (.iconst 0, 1) := by decide +kernel
theorem dX1_init_111 : decode cX1_init 111 = .ok (.putfield 73, 3) := by decide +kernel
theorem dX1_init_114 : decode cX1_init 114 = .ok (.getstatic 76, 3) := by decide +kernel
theorem dX1_init_117 : decode cX1_init 117 = .ok (.iconst 0, 1) := by decide +kernel
theorem dX1_init_118 : decode cX1_init 118 = .ok (.aload_n 0, 1) := by decide +kernel
theorem dX1_init_119 : decode cX1_init 119 = .ok (.getfield 9, 3) := by decide +kernel
theorem dX1_init_122 : decode cX1_init 122 = .ok (.iconst 0, 1) := by decide +kernel
theorem dX1_init_123 : decode cX1_init 123 = .ok (.iconst 5, 1) := by decide +kernel
theorem dX1_init_124 : decode cX1_init 124 = .ok (.invokestatic 79, 3) := by decide +kernel
theorem dX1_init_127 : decode cX1_init 127 = .ok (.return_, 1) := by decide +kernel
theorem dX1_copyFrom_0 : decode cX1_copyFrom 0 = .ok (.aload_n 1, 1) := by decide +kernel
theorem dX1_copyFrom_1 : decode cX1_copyFrom 1 = .ok (.getfield 9, 3) := by decide +kernel
theorem dX1_copyFrom_4 : decode cX1_copyFrom 4 = .ok (.iconst 0, 1) := by decide +kernel
theorem dX1_copyFrom_5 : decode cX1_copyFrom 5 = .ok (.aload_n 0, 1) := by decide +kernel
theorem dX1_copyFrom_6 : decode cX1_copyFrom 6 = .ok (.getfield 9, 3) := by decide +kernel
theorem dX1_copyFrom_9 : decode cX1_copyFrom 9 = .ok (.iconst 0, 1) := by decide +kernel
theorem dX1_copyFrom_10 : decode cX1_copyFrom 10 = .ok (.iconst 5, 1) := by decide +kernel
theorem dX1_copyFrom_11 : decode cX1_copyFrom 11 = .ok (.invokestatic 79, 3) := by decide +kernel
theorem dX1_copyFrom_14 : decode cX1_copyFrom 14 = .ok (.aload_n 1, 1) := by decide +kernel
theorem dX1_copyFrom_15 : decode cX1_copyFrom 15 = .ok (.getfield 15, 3) := by decide +kernel
theorem dX1_copyFrom_18 : decode cX1_copyFrom 18 = .ok (.iconst 0, 1) := by decide +kernel
theorem dX1_copyFrom_19 : decode cX1_copyFrom 19 = .ok (.aload_n 0, 1) := by decide +kernel
theorem dX1_copyFrom_20 : decode cX1_copyFrom 20 = .ok (.getfield 15, 3) := by decide +kernel
theorem dX1_copyFrom_23 : decode cX1_copyFrom 23 = .ok (.iconst 0, 1) := by decide +kernel
theorem dX1_copyFrom_24 : decode cX1_copyFrom 24 = .ok (.bipush 8, 2) := by decide +kernel
theorem dX1_copyFrom_26 : decode cX1_copyFrom 26 = .ok (.invokestatic 79, 3) := by decide +kernel
theorem dX1_copyFrom_29 : decode cX1_copyFrom 29 = .ok (.aload_n 0, 1) := by decide +kernel
theorem dX1_copyFrom_30 : decode cX1_copyFrom 30 = .ok (.getfield 21, 3) := by decide +kernel
theorem dX1_copyFrom_33 : decode cX1_copyFrom 33 = .ok (.aload_n 1, 1) := by decide +kernel
theorem dX1_copyFrom_34 : decode cX1_copyFrom 34 = .ok (.getfield 21, 3) := by decide +kernel
theorem dX1_copyFrom_37 : decode cX1_copyFrom 37 = .ok (.invokevirtual 85, 3) := by decide +kernel
theorem dX1_copyFrom_40 : decode cX1_copyFrom 40 = .ok (.aload_n 0, 1) := by decide +kernel
theorem dX1_copyFrom_41 : decode cX1_copyFrom 41 = .ok (.getfield 28, 3) := by decide +kernel
theorem dX1_copyFrom_44 : decode cX1_copyFrom 44 = .ok (.aload_n 1, 1) := by decide +kernel
theorem dX1_copyFrom_45 : decode cX1_copyFrom 45 = .ok (.getfield 28, 3) := by decide +kernel
theorem dX1_copyFrom_48 : decode cX1_copyFrom 48 = .ok (.invokevirtual 89, 3) := by decide +kernel
theorem dX1_copyFrom_51 : decode cX1_copyFrom 51 = .ok (.aload_n 0, 1) := by decide +kernel
theorem dX1_copyFrom_52 : decode cX1_copyFrom 52 = .ok (.getfield 35, 3) := by decide +kernel
theorem dX1_copyFrom_55 : decode cX1_copyFrom 55 = .ok (.aload_n 1, 1) := by decide +kernel
theorem dX1_copyFrom_56 : decode cX1_copyFrom 56 = .ok (.getfield 35, 3) := by decide +kernel
theorem dX1_copyFrom_59 : decode cX1_copyFrom 59 = .ok (.invokevirtual 92, 3) := by decide +kernel
theorem dX1_copyFrom_62 : decode cX1_copyFrom 62 = .ok (.aload_n 0, 1) := by decide +kernel
theorem dX1_copyFrom_63 : decode cX1_copyFrom 63 = .ok (.aload_n 1, 1) := by decide +kernel
theorem dX1_copyFrom_64 : decode cX1_copyFrom 64 = .ok (.getfield 39, 3) := by decide +kernel
theorem dX1_copyFrom_67 : decode cX1_copyFrom 67 = .ok (.putfield 39, 3) := by decide +kernel
theorem dX1_copyFrom_70 : decode cX1_copyFrom 70 = .ok (.aload_n 0, 1) := by decide +kernel
theorem dX1_copyFrom_71 : decode cX1_copyFrom 71 = .ok (.aload_n 1, 1) := by decide +kernel
theorem dX1_copyFrom_72 : decode cX1_copyFrom 72 = .ok (.getfield 43, 3) := by decide +kernel
theorem dX1_copyFrom_75 : decode cX1_copyFrom 75 = .ok (.putfield 43, 3) := by decide +kernel
theorem dX1_copyFrom_78 : decode cX1_copyFrom 78 = .ok (.aload_n 0, 1) := by decide +kernel
theorem dX1_copyFrom_79 : decode cX1_copyFrom 79 = .ok (.aload_n 1, 1) := by decide +kernel
theorem dX1_copyFrom_80 : decode cX1_copyFrom 80 = .ok (.getfield 46, 3) := by decide +kernel
theorem dX1_copyFrom_83 : decode cX1_copyFrom 83 = .ok (.putfield 46, 3) := by decide +kernel
theorem dX1_copyFrom_86 : decode cX1_copyFrom 86 = .ok (.aload_n 0, 1) := by decide +kernel
theorem dX1_copyFrom_87 : decode cX1_copyFrom 87 = .ok (.aload_n 1, 1) := by decide +kernel
theorem dX1_copyFrom_88 : decode cX1_copyFrom 88 = .ok (.getfield 49, 3) := by decide +kernel
theorem dX1_copyFrom_91 : decode cX1_copyFrom 91 = .ok (.putfield 49, 3) := by decide +kernel
theorem dX1_copyFrom_94 : decode cX1_copyFrom 94 = .ok (.aload_n 0, 1) := by decide +kernel
theorem dX1_copyFrom_95 : decode cX1_copyFrom 95 = .ok (.aload_n 1, 1) := by decide +kernel
theorem dX1_copyFrom_96 : decode cX1_copyFrom 96 = .ok (.getfield 52, 3) := by decide +kernel
theorem dX1_copyFrom_99 : decode cX1_copyFrom 99 = .ok (.putfield 52, 3) := by decide +kernel
theorem dX1_copyFrom_102 : decode cX1_copyFrom 102 = .ok (.aload_n 0, 1) := by decide +kernel
theorem dX1_copyFrom_103 : decode cX1_copyFrom 103 = .ok (.aload_n 1, 1) := by decide +kernel
theorem dX1_copyFrom_104 : decode cX1_copyFrom 104 = .ok (.getfield 55, 3) := by decide +kernel
theorem dX1_copyFrom_107 : decode cX1_copyFrom 107 = .ok (.putfield 55, 3) := by decide +kernel
theorem dX1_copyFrom_110 : decode cX1_copyFrom 110 = .ok (.aload_n 0, 1) := by decide +kernel
theorem dX1_copyFrom_111 : decode cX1_copyFrom 111 = .ok (.aload_n 1, 1) := by decide +kernel
theorem dX1_copyFrom_112 : decode cX1_copyFrom 112 = .ok (.getfield 58, 3) := by decide +kernel
theorem dX1_copyFrom_115 : decode cX1_copyFrom 115 = .ok (.putfield 58, 3) := by decide +kernel
theorem dX1_copyFrom_118 : decode cX1_copyFrom 118 = .ok (.aload_n 0, 1) := by decide +kernel
theorem dX1_copyFrom_119 : decode cX1_copyFrom 119 = .ok (.aload_n 1, 1) := by decide +kernel
theorem dX1_copyFrom_120 : decode cX1_copyFrom 120 = .ok (.getfield 61, 3) := by decide +kernel
theorem dX1_copyFrom_123 : decode cX1_copyFrom 123 = .ok (.putfield 61, 3) := by decide +kernel
theorem dX1_copyFrom_126 : decode cX1_copyFrom 126 = .ok (.aload_n 0, 1) := by decide +kernel
theorem dX1_copyFrom_127 : decode cX1_copyFrom 127 = .ok (.aload_n 1, 1) := by decide +kernel
theorem dX1_copyFrom_128 : decode cX1_copyFrom 128 = .ok (.getfield 64, 3) := by decide +kernel
theorem dX1_copyFrom_131 : decode cX1_copyFrom 131 = .ok (.putfield 64, 3) := by decide +kernel
theorem dX1_copyFrom_134 : decode cX1_copyFrom 134 = .ok (.aload_n 0, 1) := by decide +kernel
theorem dX1_copyFrom_135 : decode cX1_copyFrom 135 = .ok (.aload_n 1, 1) := by decide +kernel
theorem dX1_copyFrom_136 : decode cX1_copyFrom 136 = .ok (.getfield 67, 3) := by decide +kernel
theorem dX1_copyFrom_139 : decode cX1_copyFrom 139 = .ok (.putfield 67, 3) := by decide +kernel
theorem dX1_copyFrom_142 : decode cX1_copyFrom 142 = .ok (.aload_n 0, 1) := by decide +kernel
theorem dX1_copyFrom_143 : decode cX1_copyFrom 143 = .ok (.aload_n 1, 1) := by decide +kernel
theorem dX1_copyFrom_144 : decode cX1_copyFrom 144 = .ok (.getfield 70, 3) := by decide +kernel
theorem dX1_copyFrom_147 : decode cX1_copyFrom 147 = .ok (.putfield 70, 3) := by decide +kernel
theorem dX1_copyFrom_150 : decode cX1_copyFrom 150 = .ok (.aload_n 0, 1) := by decide +kernel
theorem dX1_copyFrom_151 : decode cX1_copyFrom 151 = .ok (.aload_n 1, 1) := by decide +kernel
theorem dX1_copyFrom_152 : decode cX1_copyFrom 152 = .ok (.getfield 73, 3) := by decide +kernel
theorem dX1_copyFrom_155 : decode cX1_copyFrom 155 = .ok (.putfield 73, 3) := by decide +kernel
theorem dX1_copyFrom_158 : decode cX1_copyFrom 158 = .ok (.return_, 1) := by decide +kernel
theorem dX1_changeSetting_0 : decode cX1_changeSetting 0 = .ok (.iload_n 1, 1) := by decide +kernel
theorem dX1_changeSetting_1 : decode cX1_changeSetting 1 = .ok (.invokestatic 95, 3) := by decide +kernel
theorem dX1_changeSetting_4 : decode cX1_changeSetting 4 = .ok (.ifCond .ne 5, 3) := by decide +kernel
theorem dX1_changeSetting_7 : decode cX1_changeSetting 7 = .ok (.iconst (-1), 1) := by decide +kernel
theorem dX1_changeSetting_8 : decode cX1_changeSetting 8 = .ok (.ireturn, 1) := by decide +kernel
theorem dX1_changeSetting_9 : decode cX1_changeSetting 9 = .ok (.iload_n 2, 1) := by decide +kernel
theorem dX1_changeSetting_10 : decode cX1_changeSetting 10 = .ok (.getstatic 99, 3) := by decide +kernel
theorem dX1_changeSetting_13 : decode cX1_changeSetting 13 = .ok (.iload_n 1, 1) := by decide +kernel
theorem dX1_changeSetting_14 : decode cX1_changeSetting 14 = .ok (.iaload, 1) := by decide +kernel
theorem dX1_changeSetting_15 : decode cX1_changeSetting 15 = .ok (.if_icmp .lt 12, 3) := by decide +kernel
theorem dX1_changeSetting_18 : decode cX1_changeSetting 18 = .ok (.iload_n 2, 1) := by decide +kernel
theorem dX1_changeSetting_19 : decode cX1_changeSetting 19 = .ok (.getstatic 102, 3) := by decide +kernel
theorem dX1_changeSetting_22 : decode cX1_changeSetting 22 = .ok (.iload_n 1, 1) := by decide +kernel
theorem dX1_changeSetting_23 : decode cX1_changeSetting 23 = .ok (.iaload, 1) := by decide +kernel
theorem dX1_changeSetting_24 : decode cX1_changeSetting 24 = .ok (.if_icmp .le 6, 3) := by decide +kernel
theorem dX1_changeSetting_27 : decode cX1_changeSetting 27 = .ok (.bipush (-2), 2) := by decide +kernel
theorem dX1_changeSetting_29 : decode cX1_changeSetting 29 = .ok (.ireturn, 1) := by decide +kernel
theorem dX1_changeSetting_30 : decode cX1_changeSetting 30 = .ok (.aload_n 0, 1) := by decide +kernel
theorem dX1_changeSetting_31 : decode cX1_changeSetting 31 = .ok (.getfield 9, 3) := by decide +kernel
theorem dX1_changeSetting_34 : decode cX1_changeSetting 34 = .ok (.iload_n 1, 1) := by decide +kernel
theorem dX1_changeSetting_35 : decode cX1_changeSetting 35 = .ok (.iaload, 1) := by decide +kernel
theorem dX1_changeSetting_36 : decode cX1_changeSetting 36 = .ok (.istore_n 3, 1) := by decide +kernel
theorem dX1_changeSetting_37 : decode cX1_changeSetting 37 = .ok (.aload_n 0, 1) := by decide +kernel
theorem dX1_changeSetting_38 : decode cX1_changeSetting 38 = .ok (.getfield 9, 3) := by decide +kernel
theorem dX1_changeSetting_41 : decode cX1_changeSetting 41 = .ok (.iload_n 1, 1) := by decide +kernel
theorem dX1_changeSetting_42 : decode cX1_changeSetting 42 = .ok (.iload_n 2, 1) := by decide +kernel
theorem dX1_changeSetting_43 : decode cX1_changeSetting 43 = .ok (.iastore, 1) := by decide +kernel
theorem dX1_changeSetting_44 : decode cX1_changeSetting 44 = .ok (.iload_n 3, 1) := by decide +kernel
theorem dX1_changeSetting_45 : decode cX1_changeSetting 45 = .ok (.ireturn, 1) := by decide +kernel
theorem dX1_changeWay_0 : decode cX1_changeWay 0 = .ok (.iload_n 1, 1) := by decide +kernel
theorem dX1_changeWay_1 : decode cX1_changeWay 1 = .ok (.ifCond .lt 8, 3) := by decide +kernel
theorem dX1_changeWay_4 : decode cX1_changeWay 4 = .ok (.iload_n 1, 1) := by decide +kernel
theorem dX1_changeWay_5 : decode cX1_changeWay 5 = .ok (.iconst 3, 1) := by decide +kernel
theorem dX1_changeWay_6 : decode cX1_changeWay 6 = .ok (.if_icmp .lt 6, 3) := by decide +kernel
theorem dX1_changeWay_9 : decode cX1_changeWay 9 = .ok (.bipush (-2), 2) := by decide +kernel
theorem dX1_changeWay_11 : decode cX1_changeWay 11 = .ok (.ireturn, 1) := by decide +kernel
theorem dX1_changeWay_12 : decode cX1_changeWay 12 = .ok (.aload_n 0, 1) := by decide +kernel
theorem dX1_changeWay_13 : decode cX1_changeWay 13 = .ok (.getfield 39, 3) := by decide +kernel
theorem dX1_changeWay_16 : decode cX1_changeWay 16 = .ok (.istore_n 2, 1) := by decide +kernel
theorem dX1_changeWay_17 : decode cX1_changeWay 17 = .ok (.aload_n 0, 1) := by decide +kernel
theorem dX1_changeWay_18 : decode cX1_changeWay 18 = .ok (.iload_n 1, 1) := by decide +kernel
theorem dX1_changeWay_19 : decode cX1_changeWay 19 = .ok (.putfield 39, 3) := by decide +kernel
theorem dX1_changeWay_22 : decode cX1_changeWay 22 = .ok (.iload_n 2, 1) := by decide +kernel
theorem dX1_changeWay_23 : decode cX1_changeWay 23 = .ok (.ireturn, 1) := by decide +kernel
theorem dX1_takeSpares_0 : decode cX1_takeSpares 0 = .ok (.iload_n 1, 1) := by decide +kernel
theorem dX1_takeSpares_1 : decode cX1_takeSpares 1 = .ok (.iconst 1, 1) := by decide +kernel
theorem dX1_takeSpares_2 : decode cX1_takeSpares 2 = .ok (.if_icmp .lt 9, 3) := by decide +kernel
theorem dX1_takeSpares_5 : decode cX1_takeSpares 5 = .ok (.iload_n 1, 1) := by decide +kernel
theorem dX1_takeSpares_6 : decode cX1_takeSpares 6 = .ok (.bipush 9, 2) := by decide +kernel
theorem dX1_takeSpares_8 : decode cX1_takeSpares 8 = .ok (.if_icmp .le 6, 3) := by decide +kernel
theorem dX1_takeSpares_11 : decode cX1_takeSpares 11 = .ok (.bipush (-2), 2) := by decide +kernel
theorem dX1_takeSpares_13 : decode cX1_takeSpares 13 = .ok (.ireturn, 1) := by decide +kernel
theorem dX1_takeSpares_14 : decode cX1_takeSpares 14 = .ok (.aload_n 0, 1) := by decide +kernel
theorem dX1_takeSpares_15 : decode cX1_takeSpares 15 = .ok (.getfield 43, 3) := by decide +kernel
theorem dX1_takeSpares_18 : decode cX1_takeSpares 18 = .ok (.iload_n 1, 1) := by decide +kernel
theorem dX1_takeSpares_19 : decode cX1_takeSpares 19 = .ok (.iadd, 1) := by decide +kernel
theorem dX1_takeSpares_20 : decode cX1_takeSpares 20 = .ok (.bipush 50, 2) := by decide +kernel
theorem dX1_takeSpares_22 : decode cX1_takeSpares 22 = .ok (.if_icmp .le 6, 3) := by decide +kernel
theorem dX1_takeSpares_25 : decode cX1_takeSpares 25 = .ok (.bipush (-4), 2) := by decide +kernel
theorem dX1_takeSpares_27 : decode cX1_takeSpares 27 = .ok (.ireturn, 1) := by decide +kernel
theorem dX1_takeSpares_28 : decode cX1_takeSpares 28 = .ok (.aload_n 0, 1) := by decide +kernel
theorem dX1_takeSpares_29 : decode cX1_takeSpares 29 = .ok (.dup, 1) := by decide +kernel
theorem dX1_takeSpares_30 : decode cX1_takeSpares 30 = .ok (.getfield 43, 3) := by decide +kernel
theorem dX1_takeSpares_33 : decode cX1_takeSpares 33 = .ok (.iload_n 1, 1) := by decide +kernel
theorem dX1_takeSpares_34 : decode cX1_takeSpares 34 = .ok (.iadd, 1) := by decide +kernel
theorem dX1_takeSpares_35 : decode cX1_takeSpares 35 = .ok (.putfield 43, 3) := by decide +kernel
theorem dX1_takeSpares_38 : decode cX1_takeSpares 38 = .ok (.aload_n 0, 1) := by decide +kernel
theorem dX1_takeSpares_39 : decode cX1_takeSpares 39 = .ok (.getfield 43, 3) := by decide +kernel
theorem dX1_takeSpares_42 : decode cX1_takeSpares 42 = .ok (.ireturn, 1) := by decide +kernel
theorem dX1_takeSpot_0 : decode cX1_takeSpot 0 = .ok (.iload_n 1, 1) := by decide +kernel
theorem dX1_takeSpot_1 : decode cX1_takeSpot 1 = .ok (.invokestatic 105, 3) := by decide +kernel
theorem dX1_takeSpot_4 : decode cX1_takeSpot 4 = .ok (.ifCond .ne 5, 3) := by decide +kernel
theorem dX1_takeSpot_7 : decode cX1_takeSpot 7 = .ok (.iconst (-1), 1) := by decide +kernel
theorem dX1_takeSpot_8 : decode cX1_takeSpot 8 = .ok (.ireturn, 1) := by decide +kernel
theorem dX1_takeSpot_9 : decode cX1_takeSpot 9 = .ok (.iload_n 2, 1) := by decide +kernel
theorem dX1_takeSpot_10 : decode cX1_takeSpot 10 = .ok (.iconst 1, 1) := by decide +kernel
theorem dX1_takeSpot_11 : decode cX1_takeSpot 11 = .ok (.if_icmp .lt 9, 3) := by decide +kernel
theorem dX1_takeSpot_14 : decode cX1_takeSpot 14 = .ok (.iload_n 2, 1) := by decide +kernel
theorem dX1_takeSpot_15 : decode cX1_takeSpot 15 = .ok (.bipush 9, 2) := by decide +kernel
theorem dX1_takeSpot_17 : decode cX1_takeSpot 17 = .ok (.if_icmp .le 6, 3) := by decide +kernel
theorem dX1_takeSpot_20 : decode cX1_takeSpot 20 = .ok (.bipush (-2), 2) := by decide +kernel
theorem dX1_takeSpot_22 : decode cX1_takeSpot 22 = .ok (.ireturn, 1) := by decide +kernel
theorem dX1_takeSpot_23 : decode cX1_takeSpot 23 = .ok (.aload_n 0, 1) := by decide +kernel
theorem dX1_takeSpot_24 : decode cX1_takeSpot 24 = .ok (.getfield 21, 3) := by decide +kernel
theorem dX1_takeSpot_27 : decode cX1_takeSpot 27 = .ok (.iload_n 1, 1) := by decide +kernel
theorem dX1_takeSpot_28 : decode cX1_takeSpot 28 = .ok (.iload_n 2, 1) := by decide +kernel
theorem dX1_takeSpot_29 : decode cX1_takeSpot 29 = .ok (.invokevirtual 108, 3) := by decide +kernel
theorem dX1_takeSpot_32 : decode cX1_takeSpot 32 = .ok (.ifCond .ne 6, 3) := by decide +kernel
theorem dX1_takeSpot_35 : decode cX1_takeSpot 35 = .ok (.bipush (-4), 2) := by decide +kernel
theorem dX1_takeSpot_37 : decode cX1_takeSpot 37 = .ok (.ireturn, 1) := by decide +kernel
theorem dX1_takeSpot_38 : decode cX1_takeSpot 38 = .ok (.aload_n 0, 1) := by decide +kernel
theorem dX1_takeSpot_39 : decode cX1_takeSpot 39 = .ok (.getfield 21, 3) := by decide +kernel
theorem dX1_takeSpot_42 : decode cX1_takeSpot 42 = .ok (.iload_n 1, 1) := by decide +kernel
theorem dX1_takeSpot_43 : decode cX1_takeSpot 43 = .ok (.invokevirtual 112, 3) := by decide +kernel
theorem dX1_takeSpot_46 : decode cX1_takeSpot 46 = .ok (.ireturn, 1) := by decide +kernel
theorem dX1_askByHand_0 : decode cX1_askByHand 0 = .ok (.iload_n 1, 1) := by decide +kernel
theorem dX1_askByHand_1 : decode cX1_askByHand 1 = .ok (.invokestatic 105, 3) := by decide +kernel
theorem dX1_askByHand_4 : decode cX1_askByHand 4 = .ok (.ifCond .ne 5, 3) := by decide +kernel
theorem dX1_askByHand_7 : decode cX1_askByHand 7 = .ok (.iconst (-1), 1) := by decide +kernel
theorem dX1_askByHand_8 : decode cX1_askByHand 8 = .ok (.ireturn, 1) := by decide +kernel
theorem dX1_askByHand_9 : decode cX1_askByHand 9 = .ok (.aload_n 0, 1) := by decide +kernel
theorem dX1_askByHand_10 : decode cX1_askByHand 10 = .ok (.getfield 28, 3) := by decide +kernel
theorem dX1_askByHand_13 : decode cX1_askByHand 13 = .ok (.iload_n 1, 1) := by decide +kernel
theorem dX1_askByHand_14 : decode cX1_askByHand 14 = .ok (.invokevirtual 116, 3) := by decide +kernel
theorem dX1_askByHand_17 : decode cX1_askByHand 17 = .ok (.bipush (-6), 2) := by decide +kernel
theorem dX1_askByHand_19 : decode cX1_askByHand 19 = .ok (.if_icmp .ne 11, 3) := by decide +kernel
theorem dX1_askByHand_22 : decode cX1_askByHand 22 = .ok (.iload_n 1, 1) := by decide +kernel
theorem dX1_askByHand_23 : decode cX1_askByHand 23 = .ok (.aload_n 0, 1) := by decide +kernel
theorem dX1_askByHand_24 : decode cX1_askByHand 24 = .ok (.getfield 52, 3) := by decide +kernel
theorem dX1_askByHand_27 : decode cX1_askByHand 27 = .ok (.if_icmp .ne 6, 3) := by decide +kernel
theorem dX1_askByHand_30 : decode cX1_askByHand 30 = .ok (.bipush (-3), 2) := by decide +kernel
theorem dX1_askByHand_32 : decode cX1_askByHand 32 = .ok (.ireturn, 1) := by decide +kernel
theorem dX1_askByHand_33 : decode cX1_askByHand 33 = .ok (.aload_n 0, 1) := by decide +kernel
theorem dX1_askByHand_34 : decode cX1_askByHand 34 = .ok (.getfield 28, 3) := by decide +kernel
theorem dX1_askByHand_37 : decode cX1_askByHand 37 = .ok (.iload_n 1, 1) := by decide +kernel
theorem dX1_askByHand_38 : decode cX1_askByHand 38 = .ok (.invokevirtual 119, 3) := by decide +kernel
theorem dX1_askByHand_41 : decode cX1_askByHand 41 = .ok (.ifCond .ne 6, 3) := by decide +kernel
theorem dX1_askByHand_44 : decode cX1_askByHand 44 = .ok (.bipush (-4), 2) := by decide +kernel
theorem dX1_askByHand_46 : decode cX1_askByHand 46 = .ok (.ireturn, 1) := by decide +kernel
theorem dX1_askByHand_47 : decode cX1_askByHand 47 = .ok (.aload_n 0, 1) := by decide +kernel
theorem dX1_askByHand_48 : decode cX1_askByHand 48 = .ok (.getfield 28, 3) := by decide +kernel
theorem dX1_askByHand_51 : decode cX1_askByHand 51 = .ok (.getfield 121, 3) := by decide +kernel
theorem dX1_askByHand_54 : decode cX1_askByHand 54 = .ok (.iconst 1, 1) := by decide +kernel
theorem dX1_askByHand_55 : decode cX1_askByHand 55 = .ok (.isub, 1) := by decide +kernel
theorem dX1_askByHand_56 : decode cX1_askByHand 56 = .ok (.ireturn, 1) := by decide +kernel
theorem dX1_withdraw_0 : decode cX1_withdraw 0 = .ok (.iload_n 1, 1) := by decide +kernel
theorem dX1_withdraw_1 : decode cX1_withdraw 1 = .ok (.invokestatic 105, 3) := by decide +kernel
theorem dX1_withdraw_4 : decode cX1_withdraw 4 = .ok (.ifCond .ne 5, 3) := by decide +kernel
theorem dX1_withdraw_7 : decode cX1_withdraw 7 = .ok (.iconst (-1), 1) := by decide +kernel
theorem dX1_withdraw_8 : decode cX1_withdraw 8 = .ok (.ireturn, 1) := by decide +kernel
theorem dX1_withdraw_9 : decode cX1_withdraw 9 = .ok (.aload_n 0, 1) := by decide +kernel
theorem dX1_withdraw_10 : decode cX1_withdraw 10 = .ok (.getfield 28, 3) := by decide +kernel
theorem dX1_withdraw_13 : decode cX1_withdraw 13 = .ok (.iload_n 1, 1) := by decide +kernel
theorem dX1_withdraw_14 : decode cX1_withdraw 14 = .ok (.invokevirtual 124, 3) := by decide +kernel
theorem dX1_withdraw_17 : decode cX1_withdraw 17 = .ok (.ifCond .ne 6, 3) := by decide +kernel
theorem dX1_withdraw_20 : decode cX1_withdraw 20 = .ok (.bipush (-3), 2) := by decide +kernel
theorem dX1_withdraw_22 : decode cX1_withdraw 22 = .ok (.ireturn, 1) := by decide +kernel
theorem dX1_withdraw_23 : decode cX1_withdraw 23 = .ok (.aload_n 0, 1) := by decide +kernel
theorem dX1_withdraw_24 : decode cX1_withdraw 24 = .ok (.getfield 28, 3) := by decide +kernel
theorem dX1_withdraw_27 : decode cX1_withdraw 27 = .ok (.getfield 121, 3) := by decide +kernel
theorem dX1_withdraw_30 : decode cX1_withdraw 30 = .ok (.ireturn, 1) := by decide +kernel
theorem dX1_hostReads_0 : decode cX1_hostReads 0 = .ok (.iload_n 1, 1) := by decide +kernel
theorem dX1_hostReads_1 : decode cX1_hostReads 1 = .ok (.invokestatic 105, 3) := by decide +kernel
theorem dX1_hostReads_4 : decode cX1_hostReads 4 = .ok (.ifCond .ne 5, 3) := by decide +kernel
theorem dX1_hostReads_7 : decode cX1_hostReads 7 = .ok (.iconst (-1), 1) := by decide +kernel
theorem dX1_hostReads_8 : decode cX1_hostReads 8 = .ok (.ireturn, 1) := by decide +kernel
theorem dX1_hostReads_9 : decode cX1_hostReads 9 = .ok (.iload_n 2, 1) := by decide +kernel
theorem dX1_hostReads_10 : decode cX1_hostReads 10 = .ok (.iconst 1, 1) := by decide +kernel
theorem dX1_hostReads_11 : decode cX1_hostReads 11 = .ok (.if_icmp .lt 10, 3) := by decide +kernel
theorem dX1_hostReads_14 : decode cX1_hostReads 14 = .ok (.iload_n 2, 1) := by decide +kernel
theorem dX1_hostReads_15 : decode cX1_hostReads 15 = .ok (.sipush 200, 3) := by decide +kernel
theorem dX1_hostReads_18 : decode cX1_hostReads 18 = .ok (.if_icmp .le 6, 3) := by decide +kernel
theorem dX1_hostReads_21 : decode cX1_hostReads 21 = .ok (.bipush (-2), 2) := by decide +kernel
theorem dX1_hostReads_23 : decode cX1_hostReads 23 = .ok (.ireturn, 1) := by decide +kernel
theorem dX1_hostReads_24 : decode cX1_hostReads 24 = .ok (.aload_n 0, 1) := by decide +kernel
theorem dX1_hostReads_25 : decode cX1_hostReads 25 = .ok (.getfield 46, 3) := by decide +kernel
theorem dX1_hostReads_28 : decode cX1_hostReads 28 = .ok (.iload_n 2, 1) := by decide +kernel
theorem dX1_hostReads_29 : decode cX1_hostReads 29 = .ok (.iadd, 1) := by decide +kernel
theorem dX1_hostReads_30 : decode cX1_hostReads 30 = .ok (.ldc 127, 2) := by decide +kernel
theorem dX1_hostReads_32 : decode cX1_hostReads 32 = .ok (.if_icmp .le 6, 3) := by decide +kernel
theorem dX1_hostReads_35 : decode cX1_hostReads 35 = .ok (.bipush (-4), 2) := by decide +kernel
theorem dX1_hostReads_37 : decode cX1_hostReads 37 = .ok (.ireturn, 1) := by decide +kernel
theorem dX1_hostReads_38 : decode cX1_hostReads 38 = .ok (.aload_n 0, 1) := by decide +kernel
theorem dX1_hostReads_39 : decode cX1_hostReads 39 = .ok (.iconst 0, 1) := by decide +kernel
theorem dX1_hostReads_40 : decode cX1_hostReads 40 = .ok (.putfield 49, 3) := by decide +kernel
theorem dX1_hostReads_43 : decode cX1_hostReads 43 = .ok (.aload_n 0, 1) := by decide +kernel
theorem dX1_hostReads_44 : decode cX1_hostReads 44 = .ok (.dup, 1) := by decide +kernel
theorem dX1_hostReads_45 : decode cX1_hostReads 45 = .ok (.getfield 46, 3) := by decide +kernel
theorem dX1_hostReads_48 : decode cX1_hostReads 48 = .ok (.iload_n 2, 1) := by decide +kernel
theorem dX1_hostReads_49 : decode cX1_hostReads 49 = .ok (.iadd, 1) := by decide +kernel
theorem dX1_hostReads_50 : decode cX1_hostReads 50 = .ok (.putfield 46, 3) := by decide +kernel
theorem dX1_hostReads_53 : decode cX1_hostReads 53 = .ok (.aload_n 0, 1) := by decide +kernel
theorem dX1_hostReads_54 : decode cX1_hostReads 54 = .ok (.getfield 52, 3) := by decide +kernel
theorem dX1_hostReads_57 : decode cX1_hostReads 57 = .ok (.bipush (-6), 2) := by decide +kernel
theorem dX1_hostReads_59 : decode cX1_hostReads 59 = .ok (.if_icmp .eq 7, 3) := by decide +kernel
theorem dX1_hostReads_62 : decode cX1_hostReads 62 = .ok (.aload_n 0, 1) := by decide +kernel
theorem dX1_hostReads_63 : decode cX1_hostReads 63 = .ok (.invokevirtual 128, 3) := by decide +kernel
theorem dX1_hostReads_66 : decode cX1_hostReads 66 = .ok (.aload_n 0, 1) := by decide +kernel
theorem dX1_hostReads_67 : decode cX1_hostReads 67 = .ok (.getfield 21, 3) := by decide +kernel
theorem dX1_hostReads_70 : decode cX1_hostReads 70 = .ok (.iload_n 1, 1) := by decide +kernel
theorem dX1_hostReads_71 : decode cX1_hostReads 71 = .ok (.aload_n 0, 1) := by decide +kernel
theorem dX1_hostReads_72 : decode cX1_hostReads 72 = .ok (.getfield 9, 3) := by decide +kernel
theorem dX1_hostReads_75 : decode cX1_hostReads 75 = .ok (.iconst 3, 1) := by decide +kernel
theorem dX1_hostReads_76 : decode cX1_hostReads 76 = .ok (.iaload, 1) := by decide +kernel
theorem dX1_hostReads_77 : decode cX1_hostReads 77 = .ok (.invokevirtual 131, 3) := by decide +kernel
theorem dX1_hostReads_80 : decode cX1_hostReads 80 = .ok (.ifCond .ne 5, 3) := by decide +kernel
theorem dX1_hostReads_83 : decode cX1_hostReads 83 = .ok (.iconst 0, 1) := by decide +kernel
theorem dX1_hostReads_84 : decode cX1_hostReads 84 = .ok (.ireturn, 1) := by decide +kernel
theorem dX1_hostReads_85 : decode cX1_hostReads 85 = .ok (.aload_n 0, 1) := by decide +kernel
theorem dX1_hostReads_86 : decode cX1_hostReads 86 = .ok (.dup, 1) := by decide +kernel
theorem dX1_hostReads_87 : decode cX1_hostReads 87 = .ok (.getfield 73, 3) := by decide +kernel
theorem dX1_hostReads_90 : decode cX1_hostReads 90 = .ok (.iconst 1, 1) := by decide +kernel
theorem dX1_hostReads_91 : decode cX1_hostReads 91 = .ok (.iadd, 1) := by decide +kernel
theorem dX1_hostReads_92 : decode cX1_hostReads 92 = .ok (.putfield 73, 3) := by decide +kernel
theorem dX1_hostReads_95 : decode cX1_hostReads 95 = .ok (.aload_n 0, 1) := by decide +kernel
theorem dX1_hostReads_96 : decode cX1_hostReads 96 = .ok (.getfield 35, 3) := by decide +kernel
theorem dX1_hostReads_99 : decode cX1_hostReads 99 = .ok (.aload_n 0, 1) := by decide +kernel
theorem dX1_hostReads_100 : decode cX1_hostReads 100 = .ok (.getfield 46, 3) := by decide +kernel
theorem dX1_hostReads_103 : decode cX1_hostReads 103 = .ok (.bipush 6, 2) := by decide +kernel
theorem dX1_hostReads_105 : decode cX1_hostReads 105 = .ok (.iload_n 1, 1) := by decide +kernel
theorem dX1_hostReads_106 : decode cX1_hostReads 106 = .ok (.invokevirtual 134, 3) := by decide +kernel
theorem dX1_hostReads_109 : decode cX1_hostReads 109 = .ok (.aload_n 0, 1) := by decide +kernel
theorem dX1_hostReads_110 : decode cX1_hostReads 110 = .ok (.iload_n 1, 1) := by decide +kernel
theorem dX1_hostReads_111 : decode cX1_hostReads 111 = .ok (.invokevirtual 137, 3) := by decide +kernel
theorem dX1_hostReads_114 : decode cX1_hostReads 114 = .ok (.pop, 1) := by decide +kernel
theorem dX1_hostReads_115 : decode cX1_hostReads 115 = .ok (.iconst 1, 1) := by decide +kernel
theorem dX1_hostReads_116 : decode cX1_hostReads 116 = .ok (.ireturn, 1) := by decide +kernel
theorem dX1_passQuietTicks_0 : decode cX1_passQuietTicks 0 = .ok (.iload_n 1, 1) := by decide +kernel
theorem dX1_passQuietTicks_1 : decode cX1_passQuietTicks 1 = .ok (.iconst 1, 1) := by decide +kernel
theorem dX1_passQuietTicks_2 : decode cX1_passQuietTicks 2 = .ok (.if_icmp .lt 10, 3) := by decide +kernel
theorem dX1_passQuietTicks_5 : decode cX1_passQuietTicks 5 = .ok (.iload_n 1, 1) := by decide +kernel
theorem dX1_passQuietTicks_6 : decode cX1_passQuietTicks 6 = .ok (.sipush 500, 3) := by decide +kernel
theorem dX1_passQuietTicks_9 : decode cX1_passQuietTicks 9 = .ok (.if_icmp .le 6, 3) := by decide +kernel
theorem dX1_passQuietTicks_12 : decode cX1_passQuietTicks 12 = .ok (.bipush (-2), 2) := by decide +kernel
theorem dX1_passQuietTicks_14 : decode cX1_passQuietTicks 14 = .ok (.ireturn, 1) := by decide +kernel
theorem dX1_passQuietTicks_15 : decode cX1_passQuietTicks 15 = .ok (.aload_n 0, 1) := by decide +kernel
theorem dX1_passQuietTicks_16 : decode cX1_passQuietTicks 16 = .ok (.getfield 46, 3) := by decide +kernel
theorem dX1_passQuietTicks_19 : decode cX1_passQuietTicks 19 = .ok (.iload_n 1, 1) := by decide +kernel
theorem dX1_passQuietTicks_20 : decode cX1_passQuietTicks 20 = .ok (.iadd, 1) := by decide +kernel
theorem dX1_passQuietTicks_21 : decode cX1_passQuietTicks 21 = .ok (.ldc 127, 2) := by decide +kernel
theorem dX1_passQuietTicks_23 : decode cX1_passQuietTicks 23 = .ok (.if_icmp .le 6, 3) := by decide +kernel
theorem dX1_passQuietTicks_26 : decode cX1_passQuietTicks 26 = .ok (.bipush (-4), 2) := by decide +kernel
theorem dX1_passQuietTicks_28 : decode cX1_passQuietTicks 28 = .ok (.ireturn, 1) := by decide +kernel
theorem dX1_passQuietTicks_29 : decode cX1_passQuietTicks 29 = .ok (.aload_n 0, 1) := by decide +kernel
theorem dX1_passQuietTicks_30 : decode cX1_passQuietTicks 30 = .ok (.getfield 64, 3) := by decide +kernel
theorem dX1_passQuietTicks_33 : decode cX1_passQuietTicks 33 = .ok (.istore_n 2, 1) := by decide +kernel
theorem dX1_passQuietTicks_34 : decode cX1_passQuietTicks 34 = .ok (.iconst 0, 1) := by decide +kernel
theorem dX1_passQuietTicks_35 : decode cX1_passQuietTicks 35 = .ok (.istore_n 3, 1) := by decide +kernel
theorem dX1_passQuietTicks_36 : decode cX1_passQuietTicks 36 = .ok (.iload_n 3, 1) := by decide +kernel
theorem dX1_passQuietTicks_37 : decode cX1_passQuietTicks 37 = .ok (.iload_n 1, 1) := by decide +kernel
theorem dX1_passQuietTicks_38 : decode cX1_passQuietTicks 38 = .ok (.if_icmp .ge 14, 3) := by decide +kernel
theorem dX1_passQuietTicks_41 : decode cX1_passQuietTicks 41 = .ok (.aload_n 0, 1) := by decide +kernel
theorem dX1_passQuietTicks_42 : decode cX1_passQuietTicks 42 = .ok (.invokevirtual 140, 3) := by decide +kernel
theorem dX1_passQuietTicks_45 : decode cX1_passQuietTicks 45 = .ok (.pop, 1) := by decide +kernel
theorem dX1_passQuietTicks_46 : decode cX1_passQuietTicks 46 = .ok (.iinc 3 1, 3) := by decide +kernel
theorem dX1_passQuietTicks_49 : decode cX1_passQuietTicks 49 = .ok (.goto (-13), 3) := by decide +kernel
theorem dX1_passQuietTicks_52 : decode cX1_passQuietTicks 52 = .ok (.aload_n 0, 1) := by decide +kernel
theorem dX1_passQuietTicks_53 : decode cX1_passQuietTicks 53 = .ok (.getfield 64, 3) := by decide +kernel
theorem dX1_passQuietTicks_56 : decode cX1_passQuietTicks 56 = .ok (.iload_n 2, 1) := by decide +kernel
theorem dX1_passQuietTicks_57 : decode cX1_passQuietTicks 57 = .ok (.isub, 1) := by decide +kernel
theorem dX1_passQuietTicks_58 : decode cX1_passQuietTicks 58 = .ok (.ireturn, 1) := by decide +kernel
theorem dX1_passQuietTick_0 : decode cX1_passQuietTick 0 = .ok (.aload_n 0, 1) := by decide +kernel
theorem dX1_passQuietTick_1 : decode cX1_passQuietTick 1 = .ok (.dup, 1) := by decide +kernel
theorem dX1_passQuietTick_2 : decode cX1_passQuietTick 2 = .ok (.getfield 46, 3) := by decide +kernel
theorem dX1_passQuietTick_5 : decode cX1_passQuietTick 5 = .ok (.iconst 1, 1) := by decide +kernel
theorem dX1_passQuietTick_6 : decode cX1_passQuietTick 6 = .ok (.iadd, 1) := by decide +kernel
theorem dX1_passQuietTick_7 : decode cX1_passQuietTick 7 = .ok (.putfield 46, 3) := by decide +kernel
theorem dX1_passQuietTick_10 : decode cX1_passQuietTick 10 = .ok (.aload_n 0, 1) := by decide +kernel
theorem dX1_passQuietTick_11 : decode cX1_passQuietTick 11 = .ok (.getfield 49, 3) := by decide +kernel
theorem dX1_passQuietTick_14 : decode cX1_passQuietTick 14 = .ok (.aload_n 0, 1) := by decide +kernel
theorem dX1_passQuietTick_15 : decode cX1_passQuietTick 15 = .ok (.getfield 9, 3) := by decide +kernel
theorem dX1_passQuietTick_18 : decode cX1_passQuietTick 18 = .ok (.iconst 0, 1) := by decide +kernel
theorem dX1_passQuietTick_19 : decode cX1_passQuietTick 19 = .ok (.iaload, 1) := by decide +kernel
theorem dX1_passQuietTick_20 : decode cX1_passQuietTick 20 = .ok (.if_icmp .ge 16, 3) := by decide +kernel
theorem dX1_passQuietTick_23 : decode cX1_passQuietTick 23 = .ok (.aload_n 0, 1) := by decide +kernel
theorem dX1_passQuietTick_24 : decode cX1_passQuietTick 24 = .ok (.dup, 1) := by decide +kernel
theorem dX1_passQuietTick_25 : decode cX1_passQuietTick 25 = .ok (.getfield 49, 3) := by decide +kernel
theorem dX1_passQuietTick_28 : decode cX1_passQuietTick 28 = .ok (.iconst 1, 1) := by decide +kernel
theorem dX1_passQuietTick_29 : decode cX1_passQuietTick 29 = .ok (.iadd, 1) := by decide +kernel
theorem dX1_passQuietTick_30 : decode cX1_passQuietTick 30 = .ok (.putfield 49, 3) := by decide +kernel
theorem dX1_passQuietTick_33 : decode cX1_passQuietTick 33 = .ok (.bipush (-6), 2) := by decide +kernel
theorem dX1_passQuietTick_35 : decode cX1_passQuietTick 35 = .ok (.ireturn, 1) := by decide +kernel
theorem dX1_passQuietTick_36 : decode cX1_passQuietTick 36 = .ok (.aload_n 0, 1) := by decide +kernel
theorem dX1_passQuietTick_37 : decode cX1_passQuietTick 37 = .ok (.getfield 52, 3) := by decide +kernel
theorem dX1_passQuietTick_40 : decode cX1_passQuietTick 40 = .ok (.bipush (-6), 2) := by decide +kernel
theorem dX1_passQuietTick_42 : decode cX1_passQuietTick 42 = .ok (.if_icmp .ne 11, 3) := by decide +kernel
theorem dX1_passQuietTick_45 : decode cX1_passQuietTick 45 = .ok (.aload_n 0, 1) := by decide +kernel
theorem dX1_passQuietTick_46 : decode cX1_passQuietTick 46 = .ok (.aload_n 0, 1) := by decide +kernel
theorem dX1_passQuietTick_47 : decode cX1_passQuietTick 47 = .ok (.invokevirtual 144, 3) := by decide +kernel
theorem dX1_passQuietTick_50 : decode cX1_passQuietTick 50 = .ok (.invokevirtual 147, 3) := by decide +kernel
theorem dX1_passQuietTick_53 : decode cX1_passQuietTick 53 = .ok (.aload_n 0, 1) := by decide +kernel
theorem dX1_passQuietTick_54 : decode cX1_passQuietTick 54 = .ok (.getfield 52, 3) := by decide +kernel
theorem dX1_passQuietTick_57 : decode cX1_passQuietTick 57 = .ok (.bipush (-6), 2) := by decide +kernel
theorem dX1_passQuietTick_59 : decode cX1_passQuietTick 59 = .ok (.if_icmp .ne 6, 3) := by decide +kernel
theorem dX1_passQuietTick_62 : decode cX1_passQuietTick 62 = .ok (.bipush (-6), 2) := by decide +kernel
theorem dX1_passQuietTick_64 : decode cX1_passQuietTick 64 = .ok (.ireturn, 1) := by decide +kernel
theorem dX1_passQuietTick_65 : decode cX1_passQuietTick 65 = .ok (.aload_n 0, 1) := by decide +kernel
theorem dX1_passQuietTick_66 : decode cX1_passQuietTick 66 = .ok (.dup, 1) := by decide +kernel
theorem dX1_passQuietTick_67 : decode cX1_passQuietTick 67 = .ok (.getfield 55, 3) := by decide +kernel
theorem dX1_passQuietTick_70 : decode cX1_passQuietTick 70 = .ok (.iconst 1, 1) := by decide +kernel
theorem dX1_passQuietTick_71 : decode cX1_passQuietTick 71 = .ok (.iadd, 1) := by decide +kernel
theorem dX1_passQuietTick_72 : decode cX1_passQuietTick 72 = .ok (.putfield 55, 3) := by decide +kernel
theorem dX1_passQuietTick_75 : decode cX1_passQuietTick 75 = .ok (.aload_n 0, 1) := by decide +kernel
theorem dX1_passQuietTick_76 : decode cX1_passQuietTick 76 = .ok (.getfield 55, 3) := by decide +kernel
theorem dX1_passQuietTick_79 : decode cX1_passQuietTick 79 = .ok (.aload_n 0, 1) := by decide +kernel
theorem dX1_passQuietTick_80 : decode cX1_passQuietTick 80 = .ok (.getfield 58, 3) := by decide +kernel
theorem dX1_passQuietTick_83 : decode cX1_passQuietTick 83 = .ok (.if_icmp .ge 6, 3) := by decide +kernel
theorem dX1_passQuietTick_86 : decode cX1_passQuietTick 86 = .ok (.bipush (-6), 2) := by decide +kernel
theorem dX1_passQuietTick_88 : decode cX1_passQuietTick 88 = .ok (.ireturn, 1) := by decide +kernel
theorem dX1_passQuietTick_89 : decode cX1_passQuietTick 89 = .ok (.aload_n 0, 1) := by decide +kernel
theorem dX1_passQuietTick_90 : decode cX1_passQuietTick 90 = .ok (.getfield 52, 3) := by decide +kernel
theorem dX1_passQuietTick_93 : decode cX1_passQuietTick 93 = .ok (.istore_n 1, 1) := by decide +kernel
theorem dX1_passQuietTick_94 : decode cX1_passQuietTick 94 = .ok (.aload_n 0, 1) := by decide +kernel
theorem dX1_passQuietTick_95 : decode cX1_passQuietTick 95 = .ok (.iload_n 1, 1) := by decide +kernel
theorem dX1_passQuietTick_96 : decode cX1_passQuietTick 96 = .ok (.invokevirtual 151, 3) := by decide +kernel
theorem dX1_passQuietTick_99 : decode cX1_passQuietTick 99 = .ok (.iload_n 1, 1) := by decide +kernel
theorem dX1_passQuietTick_100 : decode cX1_passQuietTick 100 = .ok (.ireturn, 1) := by decide +kernel
theorem dX1_dropCheck_0 : decode cX1_dropCheck 0 = .ok (.aload_n 0, 1) := by decide +kernel
theorem dX1_dropCheck_1 : decode cX1_dropCheck 1 = .ok (.getfield 52, 3) := by decide +kernel
theorem dX1_dropCheck_4 : decode cX1_dropCheck 4 = .ok (.bipush (-6), 2) := by decide +kernel
theorem dX1_dropCheck_6 : decode cX1_dropCheck 6 = .ok (.if_icmp .ne 6, 3) := by decide +kernel
theorem dX1_dropCheck_9 : decode cX1_dropCheck 9 = .ok (.bipush (-3), 2) := by decide +kernel
theorem dX1_dropCheck_11 : decode cX1_dropCheck 11 = .ok (.ireturn, 1) := by decide +kernel
theorem dX1_dropCheck_12 : decode cX1_dropCheck 12 = .ok (.aload_n 0, 1) := by decide +kernel
theorem dX1_dropCheck_13 : decode cX1_dropCheck 13 = .ok (.getfield 55, 3) := by decide +kernel
theorem dX1_dropCheck_16 : decode cX1_dropCheck 16 = .ok (.istore_n 1, 1) := by decide +kernel
theorem dX1_dropCheck_17 : decode cX1_dropCheck 17 = .ok (.aload_n 0, 1) := by decide +kernel
theorem dX1_dropCheck_18 : decode cX1_dropCheck 18 = .ok (.invokevirtual 154, 3) := by decide +kernel
theorem dX1_dropCheck_21 : decode cX1_dropCheck 21 = .ok (.iload_n 1, 1) := by decide +kernel
theorem dX1_dropCheck_22 : decode cX1_dropCheck 22 = .ok (.ireturn, 1) := by decide +kernel
theorem dX1_chooseSpan_0 : decode cX1_chooseSpan 0 = .ok (.aload_n 0, 1) := by decide +kernel
theorem dX1_chooseSpan_1 : decode cX1_chooseSpan 1 = .ok (.getfield 28, 3) := by decide +kernel
theorem dX1_chooseSpan_4 : decode cX1_chooseSpan 4 = .ok (.getfield 121, 3) := by decide +kernel
theorem dX1_chooseSpan_7 : decode cX1_chooseSpan 7 = .ok (.ifCond .le 13, 3) := by decide +kernel
theorem dX1_chooseSpan_10 : decode cX1_chooseSpan 10 = .ok (.aload_n 0, 1) := by decide +kernel
theorem dX1_chooseSpan_11 : decode cX1_chooseSpan 11 = .ok (.getfield 28, 3) := by decide +kernel
theorem dX1_chooseSpan_14 : decode cX1_chooseSpan 14 = .ok (.getfield 157, 3) := by decide +kernel
theorem dX1_chooseSpan_17 : decode cX1_chooseSpan 17 = .ok (.iconst 0, 1) := by decide +kernel
theorem dX1_chooseSpan_18 : decode cX1_chooseSpan 18 = .ok (.iaload, 1) := by decide +kernel
theorem dX1_chooseSpan_19 : decode cX1_chooseSpan 19 = .ok (.ireturn, 1) := by decide +kernel
theorem dX1_chooseSpan_20 : decode cX1_chooseSpan 20 = .ok (.aload_n 0, 1) := by decide +kernel
theorem dX1_chooseSpan_21 : decode cX1_chooseSpan 21 = .ok (.getfield 39, 3) := by decide +kernel
theorem dX1_chooseSpan_24 : decode cX1_chooseSpan 24 = .ok (.iconst 2, 1) := by decide +kernel
theorem dX1_chooseSpan_25 : decode cX1_chooseSpan 25 = .ok (.if_icmp .ne 10, 3) := by decide +kernel
theorem dX1_chooseSpan_28 : decode cX1_chooseSpan 28 = .ok (.aload_n 0, 1) := by decide +kernel
theorem dX1_chooseSpan_29 : decode cX1_chooseSpan 29 = .ok (.getfield 61, 3) := by decide +kernel
theorem dX1_chooseSpan_32 : decode cX1_chooseSpan 32 = .ok (.goto 4, 3) := by decide +kernel
theorem dX1_chooseSpan_35 : decode cX1_chooseSpan 35 = .ok (.iconst 0, 1) := by decide +kernel
theorem dX1_chooseSpan_36 : decode cX1_chooseSpan 36 = .ok (.istore_n 1, 1) := by decide +kernel
theorem dX1_chooseSpan_37 : decode cX1_chooseSpan 37 = .ok (.bipush (-6), 2) := by decide +kernel
theorem dX1_chooseSpan_39 : decode cX1_chooseSpan 39 = .ok (.istore_n 2, 1) := by decide +kernel
theorem dX1_chooseSpan_40 : decode cX1_chooseSpan 40 = .ok (.iconst (-1), 1) := by decide +kernel
theorem dX1_chooseSpan_41 : decode cX1_chooseSpan 41 = .ok (.istore_n 3, 1) := by decide +kernel
theorem dX1_chooseSpan_42 : decode cX1_chooseSpan 42 = .ok (.iconst 0, 1) := by decide +kernel
theorem dX1_chooseSpan_43 : decode cX1_chooseSpan 43 = .ok (.istore 4, 2) := by decide +kernel
theorem dX1_chooseSpan_45 : decode cX1_chooseSpan 45 = .ok (.iload 4, 2) := by decide +kernel
theorem dX1_chooseSpan_47 : decode cX1_chooseSpan 47 = .ok (.bipush 8, 2) := by decide +kernel
theorem dX1_chooseSpan_49 : decode cX1_chooseSpan 49 = .ok (.if_icmp .ge 47, 3) := by decide +kernel
theorem dX1_chooseSpan_52 : decode cX1_chooseSpan 52 = .ok (.iload_n 1, 1) := by decide +kernel
theorem dX1_chooseSpan_53 : decode cX1_chooseSpan 53 = .ok (.iload 4, 2) := by decide +kernel
theorem dX1_chooseSpan_55 : decode cX1_chooseSpan 55 = .ok (.iadd, 1) := by decide +kernel
theorem dX1_chooseSpan_56 : decode cX1_chooseSpan 56 = .ok (.bipush 8, 2) := by decide +kernel
theorem dX1_chooseSpan_58 : decode cX1_chooseSpan 58 = .ok (.irem, 1) := by decide +kernel
theorem dX1_chooseSpan_59 : decode cX1_chooseSpan 59 = .ok (.istore 5, 2) := by decide +kernel
theorem dX1_chooseSpan_61 : decode cX1_chooseSpan 61 = .ok (.aload_n 0, 1) := by decide +kernel
theorem dX1_chooseSpan_62 : decode cX1_chooseSpan 62 = .ok (.iload 5, 2) := by decide +kernel
theorem dX1_chooseSpan_64 : decode cX1_chooseSpan 64 = .ok (.invokevirtual 160, 3) := by decide +kernel
theorem dX1_chooseSpan_67 : decode cX1_chooseSpan 67 = .ok (.ifCond .eq 23, 3) := by decide +kernel
theorem dX1_chooseSpan_70 : decode cX1_chooseSpan 70 = .ok (.aload_n 0, 1) := by decide +kernel
theorem dX1_chooseSpan_71 : decode cX1_chooseSpan 71 = .ok (.iload 5, 2) := by decide +kernel
theorem dX1_chooseSpan_73 : decode cX1_chooseSpan 73 = .ok (.invokevirtual 163, 3) := by decide +kernel
theorem dX1_chooseSpan_76 : decode cX1_chooseSpan 76 = .ok (.iload_n 3, 1) := by decide +kernel
theorem dX1_chooseSpan_77 : decode cX1_chooseSpan 77 = .ok (.if_icmp .le 13, 3) := by decide +kernel
theorem dX1_chooseSpan_80 : decode cX1_chooseSpan 80 = .ok (.iload 5, 2) := by decide +kernel
theorem dX1_chooseSpan_82 : decode cX1_chooseSpan 82 = .ok (.istore_n 2, 1) := by decide +kernel
theorem dX1_chooseSpan_83 : decode cX1_chooseSpan 83 = .ok (.aload_n 0, 1) := by decide +kernel
theorem dX1_chooseSpan_84 : decode cX1_chooseSpan 84 = .ok (.iload 5, 2) := by decide +kernel
theorem dX1_chooseSpan_86 : decode cX1_chooseSpan 86 = .ok (.invokevirtual 163, 3) := by decide +kernel
theorem dX1_chooseSpan_89 : decode cX1_chooseSpan 89 = .ok (.istore_n 3, 1) := by decide +kernel
theorem dX1_chooseSpan_90 : decode cX1_chooseSpan 90 = .ok (.iinc 4 1, 3) := by decide +kernel
theorem dX1_chooseSpan_93 : decode cX1_chooseSpan 93 = .ok (.goto (-48), 3) := by decide +kernel
theorem dX1_chooseSpan_96 : decode cX1_chooseSpan 96 = .ok (.iload_n 2, 1) := by decide +kernel
theorem dX1_chooseSpan_97 : decode cX1_chooseSpan 97 = .ok (.ireturn, 1) := by decide +kernel
theorem dX1_rankOf_0 : decode cX1_rankOf 0 = .ok (.aload_n 0, 1) := by decide +kernel
theorem dX1_rankOf_1 : decode cX1_rankOf 1 = .ok (.getfield 39, 3) := by decide +kernel
theorem dX1_rankOf_4 : decode cX1_rankOf 4 = .ok (.lookupswitch 45 #[(0, 28), (1, 34)], 28) := by decide +kernel
theorem dX1_rankOf_32 : decode cX1_rankOf 32 = .ok (.aload_n 0, 1) := by decide +kernel
theorem dX1_rankOf_33 : decode cX1_rankOf 33 = .ok (.iload_n 1, 1) := by decide +kernel
theorem dX1_rankOf_34 : decode cX1_rankOf 34 = .ok (.invokevirtual 166, 3) := by decide +kernel
theorem dX1_rankOf_37 : decode cX1_rankOf 37 = .ok (.ireturn, 1) := by decide +kernel
theorem dX1_rankOf_38 : decode cX1_rankOf 38 = .ok (.aload_n 0, 1) := by decide +kernel
theorem dX1_rankOf_39 : decode cX1_rankOf 39 = .ok (.getfield 21, 3) := by decide +kernel
theorem dX1_rankOf_42 : decode cX1_rankOf 42 = .ok (.iload_n 1, 1) := by decide +kernel
theorem dX1_rankOf_43 : decode cX1_rankOf 43 = .ok (.bipush 9, 2) := by decide +kernel
theorem dX1_rankOf_45 : decode cX1_rankOf 45 = .ok (.invokevirtual 169, 3) := by decide +kernel
theorem dX1_rankOf_48 : decode cX1_rankOf 48 = .ok (.ireturn, 1) := by decide +kernel
theorem dX1_rankOf_49 : decode cX1_rankOf 49 = .ok (.iconst 0, 1) := by decide +kernel
theorem dX1_rankOf_50 : decode cX1_rankOf 50 = .ok (.ireturn, 1) := by decide +kernel
theorem dX1_beginCheck_0 : decode cX1_beginCheck 0 = .ok (.iload_n 1, 1) := by decide +kernel
theorem dX1_beginCheck_1 : decode cX1_beginCheck 1 = .ok (.invokestatic 105, 3) := by decide +kernel
theorem dX1_beginCheck_4 : decode cX1_beginCheck 4 = .ok (.ifCond .ne 4, 3) := by decide +kernel
theorem dX1_beginCheck_7 : decode cX1_beginCheck 7 = .ok (.return_, 1) := by decide +kernel
theorem dX1_beginCheck_8 : decode cX1_beginCheck 8 = .ok (.aload_n 0, 1) := by decide +kernel
theorem dX1_beginCheck_9 : decode cX1_beginCheck 9 = .ok (.getfield 28, 3) := by decide +kernel
theorem dX1_beginCheck_12 : decode cX1_beginCheck 12 = .ok (.iload_n 1, 1) := by decide +kernel
theorem dX1_beginCheck_13 : decode cX1_beginCheck 13 = .ok (.invokevirtual 124, 3) := by decide +kernel
theorem dX1_beginCheck_16 : decode cX1_beginCheck 16 = .ok (.pop, 1) := by decide +kernel
theorem dX1_beginCheck_17 : decode cX1_beginCheck 17 = .ok (.aload_n 0, 1) := by decide +kernel
theorem dX1_beginCheck_18 : decode cX1_beginCheck 18 = .ok (.iload_n 1, 1) := by decide +kernel
theorem dX1_beginCheck_19 : decode cX1_beginCheck 19 = .ok (.putfield 52, 3) := by decide +kernel
theorem dX1_beginCheck_22 : decode cX1_beginCheck 22 = .ok (.aload_n 0, 1) := by decide +kernel
theorem dX1_beginCheck_23 : decode cX1_beginCheck 23 = .ok (.iconst 0, 1) := by decide +kernel
theorem dX1_beginCheck_24 : decode cX1_beginCheck 24 = .ok (.putfield 55, 3) := by decide +kernel
theorem dX1_beginCheck_27 : decode cX1_beginCheck 27 = .ok (.aload_n 0, 1) := by decide +kernel
theorem dX1_beginCheck_28 : decode cX1_beginCheck 28 = .ok (.aload_n 0, 1) := by decide +kernel
theorem dX1_beginCheck_29 : decode cX1_beginCheck 29 = .ok (.iload_n 1, 1) := by decide +kernel
theorem dX1_beginCheck_30 : decode cX1_beginCheck 30 = .ok (.invokevirtual 173, 3) := by decide +kernel
theorem dX1_beginCheck_33 : decode cX1_beginCheck 33 = .ok (.putfield 58, 3) := by decide +kernel
theorem dX1_beginCheck_36 : decode cX1_beginCheck 36 = .ok (.aload_n 0, 1) := by decide +kernel
theorem dX1_beginCheck_37 : decode cX1_beginCheck 37 = .ok (.getfield 35, 3) := by decide +kernel
theorem dX1_beginCheck_40 : decode cX1_beginCheck 40 = .ok (.aload_n 0, 1) := by decide +kernel
theorem dX1_beginCheck_41 : decode cX1_beginCheck 41 = .ok (.getfield 46, 3) := by decide +kernel
theorem dX1_beginCheck_44 : decode cX1_beginCheck 44 = .ok (.iconst 1, 1) := by decide +kernel
theorem dX1_beginCheck_45 : decode cX1_beginCheck 45 = .ok (.iload_n 1, 1) := by decide +kernel
theorem dX1_beginCheck_46 : decode cX1_beginCheck 46 = .ok (.invokevirtual 134, 3) := by decide +kernel
theorem dX1_beginCheck_49 : decode cX1_beginCheck 49 = .ok (.return_, 1) := by decide +kernel
theorem dX1_pauseCheck_0 : decode cX1_pauseCheck 0 = .ok (.aload_n 0, 1) := by decide +kernel
theorem dX1_pauseCheck_1 : decode cX1_pauseCheck 1 = .ok (.iconst 0, 1) := by decide +kernel
theorem dX1_pauseCheck_2 : decode cX1_pauseCheck 2 = .ok (.aload_n 0, 1) := by decide +kernel
theorem dX1_pauseCheck_3 : decode cX1_pauseCheck 3 = .ok (.getfield 55, 3) := by decide +kernel
theorem dX1_pauseCheck_6 : decode cX1_pauseCheck 6 = .ok (.iconst 2, 1) := by decide +kernel
theorem dX1_pauseCheck_7 : decode cX1_pauseCheck 7 = .ok (.isub, 1) := by decide +kernel
theorem dX1_pauseCheck_8 : decode cX1_pauseCheck 8 = .ok (.invokestatic 176, 3) := by decide +kernel
theorem dX1_pauseCheck_11 : decode cX1_pauseCheck 11 = .ok (.putfield 55, 3) := by decide +kernel
theorem dX1_pauseCheck_14 : decode cX1_pauseCheck 14 = .ok (.aload_n 0, 1) := by decide +kernel
theorem dX1_pauseCheck_15 : decode cX1_pauseCheck 15 = .ok (.dup, 1) := by decide +kernel
theorem dX1_pauseCheck_16 : decode cX1_pauseCheck 16 = .ok (.getfield 67, 3) := by decide +kernel
theorem dX1_pauseCheck_19 : decode cX1_pauseCheck 19 = .ok (.iconst 1, 1) := by decide +kernel
theorem dX1_pauseCheck_20 : decode cX1_pauseCheck 20 = .ok (.iadd, 1) := by decide +kernel
theorem dX1_pauseCheck_21 : decode cX1_pauseCheck 21 = .ok (.putfield 67, 3) := by decide +kernel
theorem dX1_pauseCheck_24 : decode cX1_pauseCheck 24 = .ok (.aload_n 0, 1) := by decide +kernel
theorem dX1_pauseCheck_25 : decode cX1_pauseCheck 25 = .ok (.getfield 35, 3) := by decide +kernel
theorem dX1_pauseCheck_28 : decode cX1_pauseCheck 28 = .ok (.aload_n 0, 1) := by decide +kernel
theorem dX1_pauseCheck_29 : decode cX1_pauseCheck 29 = .ok (.getfield 46, 3) := by decide +kernel
theorem dX1_pauseCheck_32 : decode cX1_pauseCheck 32 = .ok (.iconst 2, 1) := by decide +kernel
theorem dX1_pauseCheck_33 : decode cX1_pauseCheck 33 = .ok (.aload_n 0, 1) := by decide +kernel
theorem dX1_pauseCheck_34 : decode cX1_pauseCheck 34 = .ok (.getfield 52, 3) := by decide +kernel
theorem dX1_pauseCheck_37 : decode cX1_pauseCheck 37 = .ok (.invokevirtual 134, 3) := by decide +kernel
theorem dX1_pauseCheck_40 : decode cX1_pauseCheck 40 = .ok (.return_, 1) := by decide +kernel
theorem dX1_clearCheck_0 : decode cX1_clearCheck 0 = .ok (.aload_n 0, 1) := by decide +kernel
theorem dX1_clearCheck_1 : decode cX1_clearCheck 1 = .ok (.bipush (-6), 2) := by decide +kernel
theorem dX1_clearCheck_3 : decode cX1_clearCheck 3 = .ok (.putfield 52, 3) := by decide +kernel
theorem dX1_clearCheck_6 : decode cX1_clearCheck 6 = .ok (.aload_n 0, 1) := by decide +kernel
theorem dX1_clearCheck_7 : decode cX1_clearCheck 7 = .ok (.iconst 0, 1) := by decide +kernel
theorem dX1_clearCheck_8 : decode cX1_clearCheck 8 = .ok (.putfield 55, 3) := by decide +kernel
theorem dX1_clearCheck_11 : decode cX1_clearCheck 11 = .ok (.aload_n 0, 1) := by decide +kernel
theorem dX1_clearCheck_12 : decode cX1_clearCheck 12 = .ok (.iconst 0, 1) := by decide +kernel
theorem dX1_clearCheck_13 : decode cX1_clearCheck 13 = .ok (.putfield 58, 3) := by decide +kernel
theorem dX1_clearCheck_16 : decode cX1_clearCheck 16 = .ok (.return_, 1) := by decide +kernel
theorem dX1_endCheck_0 : decode cX1_endCheck 0 = .ok (.iload_n 1, 1) := by decide +kernel
theorem dX1_endCheck_1 : decode cX1_endCheck 1 = .ok (.invokestatic 105, 3) := by decide +kernel
theorem dX1_endCheck_4 : decode cX1_endCheck 4 = .ok (.ifCond .ne 4, 3) := by decide +kernel
theorem dX1_endCheck_7 : decode cX1_endCheck 7 = .ok (.return_, 1) := by decide +kernel
theorem dX1_endCheck_8 : decode cX1_endCheck 8 = .ok (.aload_n 0, 1) := by decide +kernel
theorem dX1_endCheck_9 : decode cX1_endCheck 9 = .ok (.invokevirtual 154, 3) := by decide +kernel
theorem dX1_endCheck_12 : decode cX1_endCheck 12 = .ok (.aload_n 0, 1) := by decide +kernel
theorem dX1_endCheck_13 : decode cX1_endCheck 13 = .ok (.getfield 15, 3) := by decide +kernel
theorem dX1_endCheck_16 : decode cX1_endCheck 16 = .ok (.iload_n 1, 1) := by decide +kernel
theorem dX1_endCheck_17 : decode cX1_endCheck 17 = .ok (.aload_n 0, 1) := by decide +kernel
theorem dX1_endCheck_18 : decode cX1_endCheck 18 = .ok (.getfield 46, 3) := by decide +kernel
theorem dX1_endCheck_21 : decode cX1_endCheck 21 = .ok (.iastore, 1) := by decide +kernel
theorem dX1_endCheck_22 : decode cX1_endCheck 22 = .ok (.aload_n 0, 1) := by decide +kernel
theorem dX1_endCheck_23 : decode cX1_endCheck 23 = .ok (.iload_n 1, 1) := by decide +kernel
theorem dX1_endCheck_24 : decode cX1_endCheck 24 = .ok (.iconst 1, 1) := by decide +kernel
theorem dX1_endCheck_25 : decode cX1_endCheck 25 = .ok (.iadd, 1) := by decide +kernel
theorem dX1_endCheck_26 : decode cX1_endCheck 26 = .ok (.bipush 8, 2) := by decide +kernel
theorem dX1_endCheck_28 : decode cX1_endCheck 28 = .ok (.irem, 1) := by decide +kernel
theorem dX1_endCheck_29 : decode cX1_endCheck 29 = .ok (.putfield 61, 3) := by decide +kernel
theorem dX1_endCheck_32 : decode cX1_endCheck 32 = .ok (.aload_n 0, 1) := by decide +kernel
theorem dX1_endCheck_33 : decode cX1_endCheck 33 = .ok (.dup, 1) := by decide +kernel
theorem dX1_endCheck_34 : decode cX1_endCheck 34 = .ok (.getfield 64, 3) := by decide +kernel
theorem dX1_endCheck_37 : decode cX1_endCheck 37 = .ok (.iconst 1, 1) := by decide +kernel
theorem dX1_endCheck_38 : decode cX1_endCheck 38 = .ok (.iadd, 1) := by decide +kernel
theorem dX1_endCheck_39 : decode cX1_endCheck 39 = .ok (.putfield 64, 3) := by decide +kernel
theorem dX1_endCheck_42 : decode cX1_endCheck 42 = .ok (.aload_n 0, 1) := by decide +kernel
theorem dX1_endCheck_43 : decode cX1_endCheck 43 = .ok (.getfield 35, 3) := by decide +kernel
theorem dX1_endCheck_46 : decode cX1_endCheck 46 = .ok (.aload_n 0, 1) := by decide +kernel
theorem dX1_endCheck_47 : decode cX1_endCheck 47 = .ok (.getfield 46, 3) := by decide +kernel
theorem dX1_endCheck_50 : decode cX1_endCheck 50 = .ok (.iconst 3, 1) := by decide +kernel
theorem dX1_endCheck_51 : decode cX1_endCheck 51 = .ok (.iload_n 1, 1) := by decide +kernel
theorem dX1_endCheck_52 : decode cX1_endCheck 52 = .ok (.invokevirtual 134, 3) := by decide +kernel
theorem dX1_endCheck_55 : decode cX1_endCheck 55 = .ok (.aload_n 0, 1) := by decide +kernel
theorem dX1_endCheck_56 : decode cX1_endCheck 56 = .ok (.getfield 21, 3) := by decide +kernel
theorem dX1_endCheck_59 : decode cX1_endCheck 59 = .ok (.getfield 181, 3) := by decide +kernel
theorem dX1_endCheck_62 : decode cX1_endCheck 62 = .ok (.istore_n 2, 1) := by decide +kernel
theorem dX1_endCheck_63 : decode cX1_endCheck 63 = .ok (.aload_n 0, 1) := by decide +kernel
theorem dX1_endCheck_64 : decode cX1_endCheck 64 = .ok (.getfield 21, 3) := by decide +kernel
theorem dX1_endCheck_67 : decode cX1_endCheck 67 = .ok (.iconst 0, 1) := by decide +kernel
theorem dX1_endCheck_68 : decode cX1_endCheck 68 = .ok (.putfield 181, 3) := by decide +kernel
theorem dX1_endCheck_71 : decode cX1_endCheck 71 = .ok (.iconst 0, 1) := by decide +kernel
theorem dX1_endCheck_72 : decode cX1_endCheck 72 = .ok (.istore_n 3, 1) := by decide +kernel
theorem dX1_endCheck_73 : decode cX1_endCheck 73 = .ok (.iload_n 3, 1) := by decide +kernel
theorem dX1_endCheck_74 : decode cX1_endCheck 74 = .ok (.iload_n 2, 1) := by decide +kernel
theorem dX1_endCheck_75 : decode cX1_endCheck 75 = .ok (.if_icmp .ge 38, 3) := by decide +kernel
theorem dX1_endCheck_78 : decode cX1_endCheck 78 = .ok (.iload_n 3, 1) := by decide +kernel
theorem dX1_endCheck_79 : decode cX1_endCheck 79 = .ok (.bipush 20, 2) := by decide +kernel
theorem dX1_endCheck_81 : decode cX1_endCheck 81 = .ok (.if_icmp .ge 32, 3) := by decide +kernel
theorem dX1_endCheck_84 : decode cX1_endCheck 84 = .ok (.aload_n 0, 1) := by decide +kernel
theorem dX1_endCheck_85 : decode cX1_endCheck 85 = .ok (.iload_n 1, 1) := by decide +kernel
theorem dX1_endCheck_86 : decode cX1_endCheck 86 = .ok (.aload_n 0, 1) := by decide +kernel
theorem dX1_endCheck_87 : decode cX1_endCheck 87 = .ok (.getfield 21, 3) := by decide +kernel
theorem dX1_endCheck_90 : decode cX1_endCheck 90 = .ok (.getfield 182, 3) := by decide +kernel
theorem dX1_endCheck_93 : decode cX1_endCheck 93 = .ok (.iload_n 3, 1) := by decide +kernel
theorem dX1_endCheck_94 : decode cX1_endCheck 94 = .ok (.iaload, 1) := by decide +kernel
theorem dX1_endCheck_95 : decode cX1_endCheck 95 = .ok (.aload_n 0, 1) := by decide +kernel
theorem dX1_endCheck_96 : decode cX1_endCheck 96 = .ok (.getfield 21, 3) := by decide +kernel
theorem dX1_endCheck_99 : decode cX1_endCheck 99 = .ok (.getfield 183, 3) := by decide +kernel
theorem dX1_endCheck_102 : decode cX1_endCheck 102 = .ok (.iload_n 3, 1) := by decide +kernel
theorem dX1_endCheck_103 : decode cX1_endCheck 103 = .ok (.iaload, 1) := by decide +kernel
theorem dX1_endCheck_104 : decode cX1_endCheck 104 = .ok (.invokevirtual 186, 3) := by decide +kernel
theorem dX1_endCheck_107 : decode cX1_endCheck 107 = .ok (.iinc 3 1, 3) := by decide +kernel
theorem dX1_endCheck_110 : decode cX1_endCheck 110 = .ok (.goto (-37), 3) := by decide +kernel
theorem dX1_endCheck_113 : decode cX1_endCheck 113 = .ok (.return_, 1) := by decide +kernel
theorem dX1_lookAtSpot_0 : decode cX1_lookAtSpot 0 = .ok (.iload_n 2, 1) := by decide +kernel
theorem dX1_lookAtSpot_1 : decode cX1_lookAtSpot 1 = .ok (.iload_n 1, 1) := by decide +kernel
theorem dX1_lookAtSpot_2 : decode cX1_lookAtSpot 2 = .ok (.if_icmp .eq 16, 3) := by decide +kernel
theorem dX1_lookAtSpot_5 : decode cX1_lookAtSpot 5 = .ok (.aload_n 0, 1) := by decide +kernel
theorem dX1_lookAtSpot_6 : decode cX1_lookAtSpot 6 = .ok (.getfield 21, 3) := by decide +kernel
theorem dX1_lookAtSpot_9 : decode cX1_lookAtSpot 9 = .ok (.iload_n 2, 1) := by decide +kernel
theorem dX1_lookAtSpot_10 : decode cX1_lookAtSpot 10 = .ok (.iload_n 3, 1) := by decide +kernel
theorem dX1_lookAtSpot_11 : decode cX1_lookAtSpot 11 = .ok (.invokevirtual 108, 3) := by decide +kernel
theorem dX1_lookAtSpot_14 : decode cX1_lookAtSpot 14 = .ok (.pop, 1) := by decide +kernel
theorem dX1_lookAtSpot_15 : decode cX1_lookAtSpot 15 = .ok (.goto 94, 3) := by decide +kernel
theorem dX1_lookAtSpot_18 : decode cX1_lookAtSpot 18 = .ok (.iload_n 3, 1) := by decide +kernel
theorem dX1_lookAtSpot_19 : decode cX1_lookAtSpot 19 = .ok (.aload_n 0, 1) := by decide +kernel
theorem dX1_lookAtSpot_20 : decode cX1_lookAtSpot 20 = .ok (.getfield 9, 3) := by decide +kernel
theorem dX1_lookAtSpot_23 : decode cX1_lookAtSpot 23 = .ok (.iconst 3, 1) := by decide +kernel
theorem dX1_lookAtSpot_24 : decode cX1_lookAtSpot 24 = .ok (.iaload, 1) := by decide +kernel
theorem dX1_lookAtSpot_25 : decode cX1_lookAtSpot 25 = .ok (.if_icmp .ge 18, 3) := by decide +kernel
theorem dX1_lookAtSpot_28 : decode cX1_lookAtSpot 28 = .ok (.aload_n 0, 1) := by decide +kernel
theorem dX1_lookAtSpot_29 : decode cX1_lookAtSpot 29 = .ok (.getfield 21, 3) := by decide +kernel
theorem dX1_lookAtSpot_32 : decode cX1_lookAtSpot 32 = .ok (.iload_n 2, 1) := by decide +kernel
theorem dX1_lookAtSpot_33 : decode cX1_lookAtSpot 33 = .ok (.iload_n 3, 1) := by decide +kernel
theorem dX1_lookAtSpot_34 : decode cX1_lookAtSpot 34 = .ok (.iconst 1, 1) := by decide +kernel
theorem dX1_lookAtSpot_35 : decode cX1_lookAtSpot 35 = .ok (.iadd, 1) := by decide +kernel
theorem dX1_lookAtSpot_36 : decode cX1_lookAtSpot 36 = .ok (.invokevirtual 108, 3) := by decide +kernel
theorem dX1_lookAtSpot_39 : decode cX1_lookAtSpot 39 = .ok (.pop, 1) := by decide +kernel
theorem dX1_lookAtSpot_40 : decode cX1_lookAtSpot 40 = .ok (.goto 69, 3) := by decide +kernel
theorem dX1_lookAtSpot_43 : decode cX1_lookAtSpot 43 = .ok (.aload_n 0, 1) := by decide +kernel
theorem dX1_lookAtSpot_44 : decode cX1_lookAtSpot 44 = .ok (.getfield 43, 3) := by decide +kernel
theorem dX1_lookAtSpot_47 : decode cX1_lookAtSpot 47 = .ok (.ifCond .le 39, 3) := by decide +kernel
theorem dX1_lookAtSpot_50 : decode cX1_lookAtSpot 50 = .ok (.aload_n 0, 1) := by decide +kernel
theorem dX1_lookAtSpot_51 : decode cX1_lookAtSpot 51 = .ok (.dup, 1) := by decide +kernel
theorem dX1_lookAtSpot_52 : decode cX1_lookAtSpot 52 = .ok (.getfield 43, 3) := by decide +kernel
theorem dX1_lookAtSpot_55 : decode cX1_lookAtSpot 55 = .ok (.iconst 1, 1) := by decide +kernel
theorem dX1_lookAtSpot_56 : decode cX1_lookAtSpot 56 = .ok (.isub, 1) := by decide +kernel
theorem dX1_lookAtSpot_57 : decode cX1_lookAtSpot 57 = .ok (.putfield 43, 3) := by decide +kernel
theorem dX1_lookAtSpot_60 : decode cX1_lookAtSpot 60 = .ok (.aload_n 0, 1) := by decide +kernel
theorem dX1_lookAtSpot_61 : decode cX1_lookAtSpot 61 = .ok (.dup, 1) := by decide +kernel
theorem dX1_lookAtSpot_62 : decode cX1_lookAtSpot 62 = .ok (.getfield 70, 3) := by decide +kernel
theorem dX1_lookAtSpot_65 : decode cX1_lookAtSpot 65 = .ok (.iconst 1, 1) := by decide +kernel
theorem dX1_lookAtSpot_66 : decode cX1_lookAtSpot 66 = .ok (.iadd, 1) := by decide +kernel
theorem dX1_lookAtSpot_67 : decode cX1_lookAtSpot 67 = .ok (.putfield 70, 3) := by decide +kernel
theorem dX1_lookAtSpot_70 : decode cX1_lookAtSpot 70 = .ok (.aload_n 0, 1) := by decide +kernel
theorem dX1_lookAtSpot_71 : decode cX1_lookAtSpot 71 = .ok (.getfield 35, 3) := by decide +kernel
theorem dX1_lookAtSpot_74 : decode cX1_lookAtSpot 74 = .ok (.aload_n 0, 1) := by decide +kernel
theorem dX1_lookAtSpot_75 : decode cX1_lookAtSpot 75 = .ok (.getfield 46, 3) := by decide +kernel
theorem dX1_lookAtSpot_78 : decode cX1_lookAtSpot 78 = .ok (.iconst 4, 1) := by decide +kernel
theorem dX1_lookAtSpot_79 : decode cX1_lookAtSpot 79 = .ok (.iload_n 1, 1) := by decide +kernel
theorem dX1_lookAtSpot_80 : decode cX1_lookAtSpot 80 = .ok (.invokevirtual 134, 3) := by decide +kernel
theorem dX1_lookAtSpot_83 : decode cX1_lookAtSpot 83 = .ok (.goto 26, 3) := by decide +kernel
theorem dX1_lookAtSpot_86 : decode cX1_lookAtSpot 86 = .ok (.aload_n 0, 1) := by decide +kernel
theorem dX1_lookAtSpot_87 : decode cX1_lookAtSpot 87 = .ok (.getfield 21, 3) := by decide +kernel
theorem dX1_lookAtSpot_90 : decode cX1_lookAtSpot 90 = .ok (.iload_n 2, 1) := by decide +kernel
theorem dX1_lookAtSpot_91 : decode cX1_lookAtSpot 91 = .ok (.iload_n 3, 1) := by decide +kernel
theorem dX1_lookAtSpot_92 : decode cX1_lookAtSpot 92 = .ok (.invokevirtual 108, 3) := by decide +kernel
theorem dX1_lookAtSpot_95 : decode cX1_lookAtSpot 95 = .ok (.pop, 1) := by decide +kernel
theorem dX1_lookAtSpot_96 : decode cX1_lookAtSpot 96 = .ok (.aload_n 0, 1) := by decide +kernel
theorem dX1_lookAtSpot_97 : decode cX1_lookAtSpot 97 = .ok (.getfield 35, 3) := by decide +kernel
theorem dX1_lookAtSpot_100 : decode cX1_lookAtSpot 100 = .ok (.aload_n 0, 1) := by decide +kernel
theorem dX1_lookAtSpot_101 : decode cX1_lookAtSpot 101 = .ok (.getfield 46, 3) := by decide +kernel
theorem dX1_lookAtSpot_104 : decode cX1_lookAtSpot 104 = .ok (.iconst 5, 1) := by decide +kernel
theorem dX1_lookAtSpot_105 : decode cX1_lookAtSpot 105 = .ok (.iload_n 1, 1) := by decide +kernel
theorem dX1_lookAtSpot_106 : decode cX1_lookAtSpot 106 = .ok (.invokevirtual 134, 3) := by decide +kernel
theorem dX1_lookAtSpot_109 : decode cX1_lookAtSpot 109 = .ok (.return_, 1) := by decide +kernel
theorem dX1_overdueSpans_0 : decode cX1_overdueSpans 0 = .ok (.iconst 0, 1) := by decide +kernel
theorem dX1_overdueSpans_1 : decode cX1_overdueSpans 1 = .ok (.istore_n 1, 1) := by decide +kernel
theorem dX1_overdueSpans_2 : decode cX1_overdueSpans 2 = .ok (.iconst 0, 1) := by decide +kernel
theorem dX1_overdueSpans_3 : decode cX1_overdueSpans 3 = .ok (.istore_n 2, 1) := by decide +kernel
theorem dX1_overdueSpans_4 : decode cX1_overdueSpans 4 = .ok (.iload_n 2, 1) := by decide +kernel
theorem dX1_overdueSpans_5 : decode cX1_overdueSpans 5 = .ok (.bipush 8, 2) := by decide +kernel
theorem dX1_overdueSpans_7 : decode cX1_overdueSpans 7 = .ok (.if_icmp .ge 20, 3) := by decide +kernel
theorem dX1_overdueSpans_10 : decode cX1_overdueSpans 10 = .ok (.aload_n 0, 1) := by decide +kernel
theorem dX1_overdueSpans_11 : decode cX1_overdueSpans 11 = .ok (.iload_n 2, 1) := by decide +kernel
theorem dX1_overdueSpans_12 : decode cX1_overdueSpans 12 = .ok (.invokevirtual 189, 3) := by decide +kernel
theorem dX1_overdueSpans_15 : decode cX1_overdueSpans 15 = .ok (.ifCond .eq 6, 3) := by decide +kernel
theorem dX1_overdueSpans_18 : decode cX1_overdueSpans 18 = .ok (.iinc 1 1, 3) := by decide +kernel
theorem dX1_overdueSpans_21 : decode cX1_overdueSpans 21 = .ok (.iinc 2 1, 3) := by decide +kernel
theorem dX1_overdueSpans_24 : decode cX1_overdueSpans 24 = .ok (.goto (-20), 3) := by decide +kernel
theorem dX1_overdueSpans_27 : decode cX1_overdueSpans 27 = .ok (.iload_n 1, 1) := by decide +kernel
theorem dX1_overdueSpans_28 : decode cX1_overdueSpans 28 = .ok (.ireturn, 1) := by decide +kernel
theorem dX1_ageOf_0 : decode cX1_ageOf 0 = .ok (.iload_n 1, 1) := by decide +kernel
theorem dX1_ageOf_1 : decode cX1_ageOf 1 = .ok (.invokestatic 105, 3) := by decide +kernel
theorem dX1_ageOf_4 : decode cX1_ageOf 4 = .ok (.ifCond .ne 5, 3) := by decide +kernel
theorem dX1_ageOf_7 : decode cX1_ageOf 7 = .ok (.iconst 0, 1) := by decide +kernel
theorem dX1_ageOf_8 : decode cX1_ageOf 8 = .ok (.ireturn, 1) := by decide +kernel
theorem dX1_ageOf_9 : decode cX1_ageOf 9 = .ok (.aload_n 0, 1) := by decide +kernel
theorem dX1_ageOf_10 : decode cX1_ageOf 10 = .ok (.getfield 46, 3) := by decide +kernel
theorem dX1_ageOf_13 : decode cX1_ageOf 13 = .ok (.aload_n 0, 1) := by decide +kernel
theorem dX1_ageOf_14 : decode cX1_ageOf 14 = .ok (.getfield 15, 3) := by decide +kernel
theorem dX1_ageOf_17 : decode cX1_ageOf 17 = .ok (.iload_n 1, 1) := by decide +kernel
theorem dX1_ageOf_18 : decode cX1_ageOf 18 = .ok (.iaload, 1) := by decide +kernel
theorem dX1_ageOf_19 : decode cX1_ageOf 19 = .ok (.isub, 1) := by decide +kernel
theorem dX1_ageOf_20 : decode cX1_ageOf 20 = .ok (.ireturn, 1) := by decide +kernel
theorem dX1_isOverdue_0 : decode cX1_isOverdue 0 = .ok (.aload_n 0, 1) := by decide +kernel
theorem dX1_isOverdue_1 : decode cX1_isOverdue 1 = .ok (.iload_n 1, 1) := by decide +kernel
theorem dX1_isOverdue_2 : decode cX1_isOverdue 2 = .ok (.invokevirtual 166, 3) := by decide +kernel
theorem dX1_isOverdue_5 : decode cX1_isOverdue 5 = .ok (.aload_n 0, 1) := by decide +kernel
theorem dX1_isOverdue_6 : decode cX1_isOverdue 6 = .ok (.getfield 9, 3) := by decide +kernel
theorem dX1_isOverdue_9 : decode cX1_isOverdue 9 = .ok (.iconst 4, 1) := by decide +kernel
theorem dX1_isOverdue_10 : decode cX1_isOverdue 10 = .ok (.iaload, 1) := by decide +kernel
theorem dX1_isOverdue_11 : decode cX1_isOverdue 11 = .ok (.if_icmp .le 7, 3) := by decide +kernel
theorem dX1_isOverdue_14 : decode cX1_isOverdue 14 = .ok (.iconst 1, 1) := by decide +kernel
theorem dX1_isOverdue_15 : decode cX1_isOverdue 15 = .ok (.goto 4, 3) := by decide +kernel
theorem dX1_isOverdue_18 : decode cX1_isOverdue 18 = .ok (.iconst 0, 1) := by decide +kernel
theorem dX1_isOverdue_19 : decode cX1_isOverdue 19 = .ok (.ireturn, 1) := by decide +kernel
theorem dX1_isDue_0 : decode cX1_isDue 0 = .ok (.aload_n 0, 1) := by decide +kernel
theorem dX1_isDue_1 : decode cX1_isDue 1 = .ok (.iload_n 1, 1) := by decide +kernel
theorem dX1_isDue_2 : decode cX1_isDue 2 = .ok (.invokevirtual 166, 3) := by decide +kernel
theorem dX1_isDue_5 : decode cX1_isDue 5 = .ok (.aload_n 0, 1) := by decide +kernel
theorem dX1_isDue_6 : decode cX1_isDue 6 = .ok (.getfield 9, 3) := by decide +kernel
theorem dX1_isDue_9 : decode cX1_isDue 9 = .ok (.iconst 4, 1) := by decide +kernel
theorem dX1_isDue_10 : decode cX1_isDue 10 = .ok (.iaload, 1) := by decide +kernel
theorem dX1_isDue_11 : decode cX1_isDue 11 = .ok (.iconst 2, 1) := by decide +kernel
theorem dX1_isDue_12 : decode cX1_isDue 12 = .ok (.idiv, 1) := by decide +kernel
theorem dX1_isDue_13 : decode cX1_isDue 13 = .ok (.if_icmp .lt 7, 3) := by decide +kernel
theorem dX1_isDue_16 : decode cX1_isDue 16 = .ok (.iconst 1, 1) := by decide +kernel
theorem dX1_isDue_17 : decode cX1_isDue 17 = .ok (.goto 4, 3) := by decide +kernel
theorem dX1_isDue_20 : decode cX1_isDue 20 = .ok (.iconst 0, 1) := by decide +kernel
theorem dX1_isDue_21 : decode cX1_isDue 21 = .ok (.ireturn, 1) := by decide +kernel
theorem dX1_ticksOfCheck_0 : decode cX1_ticksOfCheck 0 = .ok (.aload_n 0, 1) := by decide +kernel
theorem dX1_ticksOfCheck_1 : decode cX1_ticksOfCheck 1 = .ok (.getfield 9, 3) := by decide +kernel
theorem dX1_ticksOfCheck_4 : decode cX1_ticksOfCheck 4 = .ok (.iconst 1, 1) := by decide +kernel
theorem dX1_ticksOfCheck_5 : decode cX1_ticksOfCheck 5 = .ok (.iaload, 1) := by decide +kernel
theorem dX1_ticksOfCheck_6 : decode cX1_ticksOfCheck 6 = .ok (.aload_n 0, 1) := by decide +kernel
theorem dX1_ticksOfCheck_7 : decode cX1_ticksOfCheck 7 = .ok (.getfield 9, 3) := by decide +kernel
theorem dX1_ticksOfCheck_10 : decode cX1_ticksOfCheck 10 = .ok (.iconst 2, 1) := by decide +kernel
theorem dX1_ticksOfCheck_11 : decode cX1_ticksOfCheck 11 = .ok (.iaload, 1) := by decide +kernel
theorem dX1_ticksOfCheck_12 : decode cX1_ticksOfCheck 12 = .ok (.aload_n 0, 1) := by decide +kernel
theorem dX1_ticksOfCheck_13 : decode cX1_ticksOfCheck 13 = .ok (.getfield 21, 3) := by decide +kernel
theorem dX1_ticksOfCheck_16 : decode cX1_ticksOfCheck 16 = .ok (.iload_n 1, 1) := by decide +kernel
theorem dX1_ticksOfCheck_17 : decode cX1_ticksOfCheck 17 = .ok (.aload_n 0, 1) := by decide +kernel
theorem dX1_ticksOfCheck_18 : decode cX1_ticksOfCheck 18 = .ok (.getfield 9, 3) := by decide +kernel
theorem dX1_ticksOfCheck_21 : decode cX1_ticksOfCheck 21 = .ok (.iconst 3, 1) := by decide +kernel
theorem dX1_ticksOfCheck_22 : decode cX1_ticksOfCheck 22 = .ok (.iaload, 1) := by decide +kernel
theorem dX1_ticksOfCheck_23 : decode cX1_ticksOfCheck 23 = .ok (.invokevirtual 169, 3) := by decide +kernel
theorem dX1_ticksOfCheck_26 : decode cX1_ticksOfCheck 26 = .ok (.imul, 1) := by decide +kernel
theorem dX1_ticksOfCheck_27 : decode cX1_ticksOfCheck 27 = .ok (.iadd, 1) := by decide +kernel
theorem dX1_ticksOfCheck_28 : decode cX1_ticksOfCheck 28 = .ok (.ireturn, 1) := by decide +kernel
theorem dX1_numberOfDisk_0 : decode cX1_numberOfDisk 0 = .ok (.iload_n 1, 1) := by decide +kernel
theorem dX1_numberOfDisk_1 : decode cX1_numberOfDisk 1 = .ok (.tableswitch 129 0 11 #[63, 68, 73, 81, 86, 91, 96, 101, 106, 114, 119, 124], 63) := by decide +kernel
theorem dX1_numberOfDisk_64 : decode cX1_numberOfDisk 64 = .ok (.aload_n 0, 1) := by decide +kernel
theorem dX1_numberOfDisk_65 : decode cX1_numberOfDisk 65 = .ok (.getfield 46, 3) := by decide +kernel
theorem dX1_numberOfDisk_68 : decode cX1_numberOfDisk 68 = .ok (.ireturn, 1) := by decide +kernel
theorem dX1_numberOfDisk_69 : decode cX1_numberOfDisk 69 = .ok (.aload_n 0, 1) := by decide +kernel
theorem dX1_numberOfDisk_70 : decode cX1_numberOfDisk 70 = .ok (.getfield 49, 3) := by decide +kernel
theorem dX1_numberOfDisk_73 : decode cX1_numberOfDisk 73 = .ok (.ireturn, 1) := by decide +kernel
theorem dX1_numberOfDisk_74 : decode cX1_numberOfDisk 74 = .ok (.aload_n 0, 1) := by decide +kernel
theorem dX1_numberOfDisk_75 : decode cX1_numberOfDisk 75 = .ok (.getfield 21, 3) := by decide +kernel
theorem dX1_numberOfDisk_78 : decode cX1_numberOfDisk 78 = .ok (.getfield 181, 3) := by decide +kernel
theorem dX1_numberOfDisk_81 : decode cX1_numberOfDisk 81 = .ok (.ireturn, 1) := by decide +kernel
theorem dX1_numberOfDisk_82 : decode cX1_numberOfDisk 82 = .ok (.aload_n 0, 1) := by decide +kernel
theorem dX1_numberOfDisk_83 : decode cX1_numberOfDisk 83 = .ok (.getfield 43, 3) := by decide +kernel
theorem dX1_numberOfDisk_86 : decode cX1_numberOfDisk 86 = .ok (.ireturn, 1) := by decide +kernel
theorem dX1_numberOfDisk_87 : decode cX1_numberOfDisk 87 = .ok (.aload_n 0, 1) := by decide +kernel
theorem dX1_numberOfDisk_88 : decode cX1_numberOfDisk 88 = .ok (.getfield 39, 3) := by decide +kernel
theorem dX1_numberOfDisk_91 : decode cX1_numberOfDisk 91 = .ok (.ireturn, 1) := by decide +kernel
theorem dX1_numberOfDisk_92 : decode cX1_numberOfDisk 92 = .ok (.aload_n 0, 1) := by decide +kernel
theorem dX1_numberOfDisk_93 : decode cX1_numberOfDisk 93 = .ok (.getfield 52, 3) := by decide +kernel
theorem dX1_numberOfDisk_96 : decode cX1_numberOfDisk 96 = .ok (.ireturn, 1) := by decide +kernel
theorem dX1_numberOfDisk_97 : decode cX1_numberOfDisk 97 = .ok (.aload_n 0, 1) := by decide +kernel
theorem dX1_numberOfDisk_98 : decode cX1_numberOfDisk 98 = .ok (.getfield 55, 3) := by decide +kernel
theorem dX1_numberOfDisk_101 : decode cX1_numberOfDisk 101 = .ok (.ireturn, 1) := by decide +kernel
theorem dX1_numberOfDisk_102 : decode cX1_numberOfDisk 102 = .ok (.aload_n 0, 1) := by decide +kernel
theorem dX1_numberOfDisk_103 : decode cX1_numberOfDisk 103 = .ok (.getfield 58, 3) := by decide +kernel
theorem dX1_numberOfDisk_106 : decode cX1_numberOfDisk 106 = .ok (.ireturn, 1) := by decide +kernel
theorem dX1_numberOfDisk_107 : decode cX1_numberOfDisk 107 = .ok (.aload_n 0, 1) := by decide +kernel
theorem dX1_numberOfDisk_108 : decode cX1_numberOfDisk 108 = .ok (.getfield 28, 3) := by decide +kernel
theorem dX1_numberOfDisk_111 : decode cX1_numberOfDisk 111 = .ok (.getfield 121, 3) := by decide +kernel
theorem dX1_numberOfDisk_114 : decode cX1_numberOfDisk 114 = .ok (.ireturn, 1) := by decide +kernel
theorem dX1_numberOfDisk_115 : decode cX1_numberOfDisk 115 = .ok (.aload_n 0, 1) := by decide +kernel
theorem dX1_numberOfDisk_116 : decode cX1_numberOfDisk 116 = .ok (.getfield 64, 3) := by decide +kernel
theorem dX1_numberOfDisk_119 : decode cX1_numberOfDisk 119 = .ok (.ireturn, 1) := by decide +kernel
theorem dX1_numberOfDisk_120 : decode cX1_numberOfDisk 120 = .ok (.aload_n 0, 1) := by decide +kernel
theorem dX1_numberOfDisk_121 : decode cX1_numberOfDisk 121 = .ok (.getfield 67, 3) := by decide +kernel
theorem dX1_numberOfDisk_124 : decode cX1_numberOfDisk 124 = .ok (.ireturn, 1) := by decide +kernel
theorem dX1_numberOfDisk_125 : decode cX1_numberOfDisk 125 = .ok (.aload_n 0, 1) := by decide +kernel
theorem dX1_numberOfDisk_126 : decode cX1_numberOfDisk 126 = .ok (.getfield 70, 3) := by decide +kernel
theorem dX1_numberOfDisk_129 : decode cX1_numberOfDisk 129 = .ok (.ireturn, 1) := by decide +kernel
theorem dX1_numberOfDisk_130 : decode cX1_numberOfDisk 130 = .ok (.aload_n 0, 1) := by decide +kernel
theorem dX1_numberOfDisk_131 : decode cX1_numberOfDisk 131 = .ok (.getfield 73, 3) := by decide +kernel
theorem dX1_numberOfDisk_134 : decode cX1_numberOfDisk 134 = .ok (.ireturn, 1) := by decide +kernel
theorem dX1_numberOfSpan_0 : decode cX1_numberOfSpan 0 = .ok (.iload_n 1, 1) := by decide +kernel
theorem dX1_numberOfSpan_1 : decode cX1_numberOfSpan 1 = .ok (.invokestatic 105, 3) := by decide +kernel
theorem dX1_numberOfSpan_4 : decode cX1_numberOfSpan 4 = .ok (.ifCond .ne 5, 3) := by decide +kernel
theorem dX1_numberOfSpan_7 : decode cX1_numberOfSpan 7 = .ok (.iconst (-1), 1) := by decide +kernel
theorem dX1_numberOfSpan_8 : decode cX1_numberOfSpan 8 = .ok (.ireturn, 1) := by decide +kernel
theorem dX1_numberOfSpan_9 : decode cX1_numberOfSpan 9 = .ok (.iload_n 2, 1) := by decide +kernel
theorem dX1_numberOfSpan_10 : decode cX1_numberOfSpan 10 = .ok (.tableswitch 103 0 5 #[38, 45, 51, 60, 71, 97], 38) := by decide +kernel
theorem dX1_numberOfSpan_48 : decode cX1_numberOfSpan 48 = .ok (.aload_n 0, 1) := by decide +kernel
theorem dX1_numberOfSpan_49 : decode cX1_numberOfSpan 49 = .ok (.getfield 15, 3) := by decide +kernel
theorem dX1_numberOfSpan_52 : decode cX1_numberOfSpan 52 = .ok (.iload_n 1, 1) := by decide +kernel
theorem dX1_numberOfSpan_53 : decode cX1_numberOfSpan 53 = .ok (.iaload, 1) := by decide +kernel
theorem dX1_numberOfSpan_54 : decode cX1_numberOfSpan 54 = .ok (.ireturn, 1) := by decide +kernel
theorem dX1_numberOfSpan_55 : decode cX1_numberOfSpan 55 = .ok (.aload_n 0, 1) := by decide +kernel
theorem dX1_numberOfSpan_56 : decode cX1_numberOfSpan 56 = .ok (.iload_n 1, 1) := by decide +kernel
theorem dX1_numberOfSpan_57 : decode cX1_numberOfSpan 57 = .ok (.invokevirtual 166, 3) := by decide +kernel
theorem dX1_numberOfSpan_60 : decode cX1_numberOfSpan 60 = .ok (.ireturn, 1) := by decide +kernel
theorem dX1_numberOfSpan_61 : decode cX1_numberOfSpan 61 = .ok (.aload_n 0, 1) := by decide +kernel
theorem dX1_numberOfSpan_62 : decode cX1_numberOfSpan 62 = .ok (.getfield 21, 3) := by decide +kernel
theorem dX1_numberOfSpan_65 : decode cX1_numberOfSpan 65 = .ok (.iload_n 1, 1) := by decide +kernel
theorem dX1_numberOfSpan_66 : decode cX1_numberOfSpan 66 = .ok (.invokevirtual 112, 3) := by decide +kernel
theorem dX1_numberOfSpan_69 : decode cX1_numberOfSpan 69 = .ok (.ireturn, 1) := by decide +kernel
theorem dX1_numberOfSpan_70 : decode cX1_numberOfSpan 70 = .ok (.aload_n 0, 1) := by decide +kernel
theorem dX1_numberOfSpan_71 : decode cX1_numberOfSpan 71 = .ok (.getfield 21, 3) := by decide +kernel
theorem dX1_numberOfSpan_74 : decode cX1_numberOfSpan 74 = .ok (.iload_n 1, 1) := by decide +kernel
theorem dX1_numberOfSpan_75 : decode cX1_numberOfSpan 75 = .ok (.bipush 9, 2) := by decide +kernel
theorem dX1_numberOfSpan_77 : decode cX1_numberOfSpan 77 = .ok (.invokevirtual 169, 3) := by decide +kernel
theorem dX1_numberOfSpan_80 : decode cX1_numberOfSpan 80 = .ok (.ireturn, 1) := by decide +kernel
theorem dX1_numberOfSpan_81 : decode cX1_numberOfSpan 81 = .ok (.aload_n 0, 1) := by decide +kernel
theorem dX1_numberOfSpan_82 : decode cX1_numberOfSpan 82 = .ok (.iload_n 1, 1) := by decide +kernel
theorem dX1_numberOfSpan_83 : decode cX1_numberOfSpan 83 = .ok (.invokevirtual 189, 3) := by decide +kernel
theorem dX1_numberOfSpan_86 : decode cX1_numberOfSpan 86 = .ok (.ifCond .eq 7, 3) := by decide +kernel
theorem dX1_numberOfSpan_89 : decode cX1_numberOfSpan 89 = .ok (.iconst 2, 1) := by decide +kernel
theorem dX1_numberOfSpan_90 : decode cX1_numberOfSpan 90 = .ok (.goto 16, 3) := by decide +kernel
theorem dX1_numberOfSpan_93 : decode cX1_numberOfSpan 93 = .ok (.aload_n 0, 1) := by decide +kernel
theorem dX1_numberOfSpan_94 : decode cX1_numberOfSpan 94 = .ok (.iload_n 1, 1) := by decide +kernel
theorem dX1_numberOfSpan_95 : decode cX1_numberOfSpan 95 = .ok (.invokevirtual 160, 3) := by decide +kernel
theorem dX1_numberOfSpan_98 : decode cX1_numberOfSpan 98 = .ok (.ifCond .eq 7, 3) := by decide +kernel
theorem dX1_numberOfSpan_101 : decode cX1_numberOfSpan 101 = .ok (.iconst 1, 1) := by decide +kernel
theorem dX1_numberOfSpan_102 : decode cX1_numberOfSpan 102 = .ok (.goto 4, 3) := by decide +kernel
theorem dX1_numberOfSpan_105 : decode cX1_numberOfSpan 105 = .ok (.iconst 0, 1) := by decide +kernel
theorem dX1_numberOfSpan_106 : decode cX1_numberOfSpan 106 = .ok (.ireturn, 1) := by decide +kernel
theorem dX1_numberOfSpan_107 : decode cX1_numberOfSpan 107 = .ok (.aload_n 0, 1) := by decide +kernel
theorem dX1_numberOfSpan_108 : decode cX1_numberOfSpan 108 = .ok (.iload_n 1, 1) := by decide +kernel
theorem dX1_numberOfSpan_109 : decode cX1_numberOfSpan 109 = .ok (.invokevirtual 173, 3) := by decide +kernel
theorem dX1_numberOfSpan_112 : decode cX1_numberOfSpan 112 = .ok (.ireturn, 1) := by decide +kernel
theorem dX1_numberOfSpan_113 : decode cX1_numberOfSpan 113 = .ok (.aload_n 0, 1) := by decide +kernel
theorem dX1_numberOfSpan_114 : decode cX1_numberOfSpan 114 = .ok (.getfield 28, 3) := by decide +kernel
theorem dX1_numberOfSpan_117 : decode cX1_numberOfSpan 117 = .ok (.iload_n 1, 1) := by decide +kernel
theorem dX1_numberOfSpan_118 : decode cX1_numberOfSpan 118 = .ok (.invokevirtual 116, 3) := by decide +kernel
theorem dX1_numberOfSpan_121 : decode cX1_numberOfSpan 121 = .ok (.ireturn, 1) := by decide +kernel
theorem dX2_init_0 : decode cX2_init 0 = .ok (.aload_n 0, 1) := by decide +kernel
theorem dX2_init_1 : decode cX2_init 1 = .ok (.invokespecial 3, 3) := by decide +kernel
theorem dX2_init_4 : decode cX2_init 4 = .ok (.aload_n 0, 1) := by decide +kernel
theorem dX2_init_5 : decode cX2_init 5 = .ok (.bipush 7, 2) := by decide +kernel
theorem dX2_init_7 : decode cX2_init 7 = .ok (.anewarray 9, 3) := by decide +kernel
theorem dX2_init_10 : decode cX2_init 10 = .ok (.putfield 11, 3) := by decide +kernel
theorem dX2_init_13 : decode cX2_init 13 = .ok (.aload_n 0, 1) := by decide +kernel
theorem dX2_init_14 : decode cX2_init 14 = .ok (.iconst 0, 1) := by decide +kernel
theorem dX2_init_15 : decode cX2_init 15 = .ok (.putfield 17, 3) := by decide +kernel
theorem dX2_init_18 : decode cX2_init 18 = .ok (.iconst 0, 1) := by decide +kernel
theorem dX2_init_19 : decode cX2_init 19 = .ok (.istore_n 1, 1) := by decide +kernel
theorem dX2_init_20 : decode cX2_init 20 = .ok (.iload_n 1, 1) := by decide +kernel
theorem dX2_init_21 : decode cX2_init 21 = .ok (.aload_n 0, 1) := by decide +kernel
theorem dX2_init_22 : decode cX2_init 22 = .ok (.getfield 11, 3) := by decide +kernel
theorem dX2_init_25 : decode cX2_init 25 = .ok (.arraylength, 1) := by decide +kernel
theorem dX2_init_26 : decode cX2_init 26 = .ok (.if_icmp .ge 22, 3) := by decide +kernel
theorem dX2_init_29 : decode cX2_init 29 = .ok (.aload_n 0, 1) := by decide +kernel
theorem dX2_init_30 : decode cX2_init 30 = .ok (.getfield 11, 3) := by decide +kernel
theorem dX2_init_33 : decode cX2_init 33 = .ok (.iload_n 1, 1) := by decide +kernel
theorem dX2_init_34 : decode cX2_init 34 = .ok (.new 9, 3) := by decide +kernel
theorem dX2_init_37 : decode cX2_init 37 = .ok (.dup, 1) := by decide +kernel
theorem dX2_init_38 : decode cX2_init 38 = .ok (.invokespecial 21, 3) := by decide +kernel
theorem dX2_init_41 : decode cX2_init 41 = .ok (.aastore, 1) := by decide +kernel
theorem dX2_init_42 : decode cX2_init 42 = .ok (.iinc 1 1, 3) := by decide +kernel
theorem dX2_init_45 : decode cX2_init 45 = .ok (.goto (-25), 3) := by decide +kernel
theorem dX2_init_48 : decode cX2_init 48 = .ok (.return_, 1) := by decide +kernel
theorem dX2_draft_0 : decode cX2_draft 0 = .ok (.aload_n 0, 1) := by decide +kernel
theorem dX2_draft_1 : decode cX2_draft 1 = .ok (.aload_n 0, 1) := by decide +kernel
theorem dX2_draft_2 : decode cX2_draft 2 = .ok (.getfield 17, 3) := by decide +kernel
theorem dX2_draft_5 : decode cX2_draft 5 = .ok (.invokevirtual 22, 3) := by decide +kernel
theorem dX2_draft_8 : decode cX2_draft 8 = .ok (.astore_n 2, 1) := by decide +kernel
theorem dX2_draft_9 : decode cX2_draft 9 = .ok (.aload_n 2, 1) := by decide +kernel
theorem dX2_draft_10 : decode cX2_draft 10 = .ok (.ifnull 8, 3) := by decide +kernel
theorem dX2_draft_13 : decode cX2_draft 13 = .ok (.aload_n 2, 1) := by decide +kernel
theorem dX2_draft_14 : decode cX2_draft 14 = .ok (.aload_n 1, 1) := by decide +kernel
theorem dX2_draft_15 : decode cX2_draft 15 = .ok (.invokevirtual 26, 3) := by decide +kernel
theorem dX2_draft_18 : decode cX2_draft 18 = .ok (.return_, 1) := by decide +kernel
theorem dX2_keep_0 : decode cX2_keep 0 = .ok (.iload_n 1, 1) := by decide +kernel
theorem dX2_keep_1 : decode cX2_keep 1 = .ok (.ifCond .ge 5, 3) := by decide +kernel
theorem dX2_keep_4 : decode cX2_keep 4 = .ok (.iload_n 1, 1) := by decide +kernel
theorem dX2_keep_5 : decode cX2_keep 5 = .ok (.ireturn, 1) := by decide +kernel
theorem dX2_keep_6 : decode cX2_keep 6 = .ok (.aload_n 0, 1) := by decide +kernel
theorem dX2_keep_7 : decode cX2_keep 7 = .ok (.getfield 17, 3) := by decide +kernel
theorem dX2_keep_10 : decode cX2_keep 10 = .ok (.bipush 6, 2) := by decide +kernel
theorem dX2_keep_12 : decode cX2_keep 12 = .ok (.if_icmp .ge 16, 3) := by decide +kernel
theorem dX2_keep_15 : decode cX2_keep 15 = .ok (.aload_n 0, 1) := by decide +kernel
theorem dX2_keep_16 : decode cX2_keep 16 = .ok (.dup, 1) := by decide +kernel
theorem dX2_keep_17 : decode cX2_keep 17 = .ok (.getfield 17, 3) := by decide +kernel
theorem dX2_keep_20 : decode cX2_keep 20 = .ok (.iconst 1, 1) := by decide +kernel
theorem dX2_keep_21 : decode cX2_keep 21 = .ok (.iadd, 1) := by decide +kernel
theorem dX2_keep_22 : decode cX2_keep 22 = .ok (.putfield 17, 3) := by decide +kernel
theorem dX2_keep_25 : decode cX2_keep 25 = .ok (.goto 7, 3) := by decide +kernel
theorem dX2_keep_28 : decode cX2_keep 28 = .ok (.aload_n 0, 1) := by decide +kernel
theorem dX2_keep_29 : decode cX2_keep 29 = .ok (.invokevirtual 30, 3) := by decide +kernel
theorem dX2_keep_32 : decode cX2_keep 32 = .ok (.iload_n 1, 1) := by decide +kernel
theorem dX2_keep_33 : decode cX2_keep 33 = .ok (.ireturn, 1) := by decide +kernel
theorem dX2_restore_0 : decode cX2_restore 0 = .ok (.aload_n 0, 1) := by decide +kernel
theorem dX2_restore_1 : decode cX2_restore 1 = .ok (.getfield 17, 3) := by decide +kernel
theorem dX2_restore_4 : decode cX2_restore 4 = .ok (.ifCond .ne 6, 3) := by decide +kernel
theorem dX2_restore_7 : decode cX2_restore 7 = .ok (.bipush (-3), 2) := by decide +kernel
theorem dX2_restore_9 : decode cX2_restore 9 = .ok (.ireturn, 1) := by decide +kernel
theorem dX2_restore_10 : decode cX2_restore 10 = .ok (.aload_n 0, 1) := by decide +kernel
theorem dX2_restore_11 : decode cX2_restore 11 = .ok (.dup, 1) := by decide +kernel
theorem dX2_restore_12 : decode cX2_restore 12 = .ok (.getfield 17, 3) := by decide +kernel
theorem dX2_restore_15 : decode cX2_restore 15 = .ok (.iconst 1, 1) := by decide +kernel
theorem dX2_restore_16 : decode cX2_restore 16 = .ok (.isub, 1) := by decide +kernel
theorem dX2_restore_17 : decode cX2_restore 17 = .ok (.putfield 17, 3) := by decide +kernel
theorem dX2_restore_20 : decode cX2_restore 20 = .ok (.aload_n 0, 1) := by decide +kernel
theorem dX2_restore_21 : decode cX2_restore 21 = .ok (.aload_n 0, 1) := by decide +kernel
theorem dX2_restore_22 : decode cX2_restore 22 = .ok (.getfield 17, 3) := by decide +kernel
theorem dX2_restore_25 : decode cX2_restore 25 = .ok (.invokevirtual 22, 3) := by decide +kernel
theorem dX2_restore_28 : decode cX2_restore 28 = .ok (.astore_n 2, 1) := by decide +kernel
theorem dX2_restore_29 : decode cX2_restore 29 = .ok (.aload_n 2, 1) := by decide +kernel
theorem dX2_restore_30 : decode cX2_restore 30 = .ok (.ifnull 8, 3) := by decide +kernel
theorem dX2_restore_33 : decode cX2_restore 33 = .ok (.aload_n 1, 1) := by decide +kernel
theorem dX2_restore_34 : decode cX2_restore 34 = .ok (.aload_n 2, 1) := by decide +kernel
theorem dX2_restore_35 : decode cX2_restore 35 = .ok (.invokevirtual 26, 3) := by decide +kernel
theorem dX2_restore_38 : decode cX2_restore 38 = .ok (.aload_n 0, 1) := by decide +kernel
theorem dX2_restore_39 : decode cX2_restore 39 = .ok (.getfield 17, 3) := by decide +kernel
theorem dX2_restore_42 : decode cX2_restore 42 = .ok (.ireturn, 1) := by decide +kernel
theorem dX2_discardOldest_0 : decode cX2_discardOldest 0 = .ok (.aload_n 0, 1) := by decide +kernel
theorem dX2_discardOldest_1 : decode cX2_discardOldest 1 = .ok (.getfield 11, 3) := by decide +kernel
theorem dX2_discardOldest_4 : decode cX2_discardOldest 4 = .ok (.iconst 0, 1) := by decide +kernel
theorem dX2_discardOldest_5 : decode cX2_discardOldest 5 = .ok (.aaload, 1) := by decide +kernel
theorem dX2_discardOldest_6 : decode cX2_discardOldest 6 = .ok (.astore_n 1, 1) := by decide +kernel
theorem dX2_discardOldest_7 : decode cX2_discardOldest 7 = .ok (.iconst 1, 1) := by decide +kernel
theorem dX2_discardOldest_8 : decode cX2_discardOldest 8 = .ok (.istore_n 2, 1) := by decide +kernel
theorem dX2_discardOldest_9 : decode cX2_discardOldest 9 = .ok (.iload_n 2, 1) := by decide +kernel
theorem dX2_discardOldest_10 : decode cX2_discardOldest 10 = .ok (.aload_n 0, 1) := by decide +kernel
theorem dX2_discardOldest_11 : decode cX2_discardOldest 11 = .ok (.getfield 11, 3) := by decide +kernel
theorem dX2_discardOldest_14 : decode cX2_discardOldest 14 = .ok (.arraylength, 1) := by decide +kernel
theorem dX2_discardOldest_15 : decode cX2_discardOldest 15 = .ok (.if_icmp .ge 23, 3) := by decide +kernel
theorem dX2_discardOldest_18 : decode cX2_discardOldest 18 = .ok (.aload_n 0, 1) := by decide +kernel
theorem dX2_discardOldest_19 : decode cX2_discardOldest 19 = .ok (.getfield 11, 3) := by decide +kernel
theorem dX2_discardOldest_22 : decode cX2_discardOldest 22 = .ok (.iload_n 2, 1) := by decide +kernel
theorem dX2_discardOldest_23 : decode cX2_discardOldest 23 = .ok (.iconst 1, 1) := by decide +kernel
theorem dX2_discardOldest_24 : decode cX2_discardOldest 24 = .ok (.isub, 1) := by decide +kernel
theorem dX2_discardOldest_25 : decode cX2_discardOldest 25 = .ok (.aload_n 0, 1) := by decide +kernel
theorem dX2_discardOldest_26 : decode cX2_discardOldest 26 = .ok (.getfield 11, 3) := by decide +kernel
theorem dX2_discardOldest_29 : decode cX2_discardOldest 29 = .ok (.iload_n 2, 1) := by decide +kernel
theorem dX2_discardOldest_30 : decode cX2_discardOldest 30 = .ok (.aaload, 1) := by decide +kernel
theorem dX2_discardOldest_31 : decode cX2_discardOldest 31 = .ok (.aastore, 1) := by decide +kernel
theorem dX2_discardOldest_32 : decode cX2_discardOldest 32 = .ok (.iinc 2 1, 3) := by decide +kernel
theorem dX2_discardOldest_35 : decode cX2_discardOldest 35 = .ok (.goto (-26), 3) := by decide +kernel
theorem dX2_discardOldest_38 : decode cX2_discardOldest 38 = .ok (.aload_n 0, 1) := by decide +kernel
theorem dX2_discardOldest_39 : decode cX2_discardOldest 39 = .ok (.getfield 11, 3) := by decide +kernel
theorem dX2_discardOldest_42 : decode cX2_discardOldest 42 = .ok (.aload_n 0, 1) := by decide +kernel
theorem dX2_discardOldest_43 : decode cX2_discardOldest 43 = .ok (.getfield 11, 3) := by decide +kernel
theorem dX2_discardOldest_46 : decode cX2_discardOldest 46 = .ok (.arraylength, 1) := by decide +kernel
theorem dX2_discardOldest_47 : decode cX2_discardOldest 47 = .ok (.iconst 1, 1) := by decide +kernel
theorem dX2_discardOldest_48 : decode cX2_discardOldest 48 = .ok (.isub, 1) := by decide +kernel
theorem dX2_discardOldest_49 : decode cX2_discardOldest 49 = .ok (.aload_n 1, 1) := by decide +kernel
theorem dX2_discardOldest_50 : decode cX2_discardOldest 50 = .ok (.aastore, 1) := by decide +kernel
theorem dX2_discardOldest_51 : decode cX2_discardOldest 51 = .ok (.return_, 1) := by decide +kernel
theorem dX2_rowAt_0 : decode cX2_rowAt 0 = .ok (.iload_n 1, 1) := by decide +kernel
theorem dX2_rowAt_1 : decode cX2_rowAt 1 = .ok (.ifCond .lt 21, 3) := by decide +kernel
theorem dX2_rowAt_4 : decode cX2_rowAt 4 = .ok (.iload_n 1, 1) := by decide +kernel
theorem dX2_rowAt_5 : decode cX2_rowAt 5 = .ok (.aload_n 0, 1) := by decide +kernel
theorem dX2_rowAt_6 : decode cX2_rowAt 6 = .ok (.getfield 11, 3) := by decide +kernel
theorem dX2_rowAt_9 : decode cX2_rowAt 9 = .ok (.arraylength, 1) := by decide +kernel
theorem dX2_rowAt_10 : decode cX2_rowAt 10 = .ok (.if_icmp .ge 12, 3) := by decide +kernel
theorem dX2_rowAt_13 : decode cX2_rowAt 13 = .ok (.aload_n 0, 1) := by decide +kernel
theorem dX2_rowAt_14 : decode cX2_rowAt 14 = .ok (.getfield 11, 3) := by decide +kernel
theorem dX2_rowAt_17 : decode cX2_rowAt 17 = .ok (.iload_n 1, 1) := by decide +kernel
theorem dX2_rowAt_18 : decode cX2_rowAt 18 = .ok (.aaload, 1) := by decide +kernel
theorem dX2_rowAt_19 : decode cX2_rowAt 19 = .ok (.goto 4, 3) := by decide +kernel
theorem dX2_rowAt_22 : decode cX2_rowAt 22 = .ok (.aconst_null, 1) := by decide +kernel
theorem dX2_rowAt_23 : decode cX2_rowAt 23 = .ok (.areturn, 1) := by decide +kernel
theorem dX3_init_0 : decode cX3_init 0 = .ok (.aload_n 0, 1) := by decide +kernel
theorem dX3_init_1 : decode cX3_init 1 = .ok (.invokespecial 3, 3) := by decide +kernel
theorem dX3_init_4 : decode cX3_init 4 = .ok (.aload_n 0, 1) := by decide +kernel
theorem dX3_init_5 : decode cX3_init 5 = .ok (.bipush 10, 2) := by decide +kernel
theorem dX3_init_7 : decode cX3_init 7 = .ok (.newarray .int, 2) := by decide +kernel
theorem dX3_init_9 : decode cX3_init 9 = .ok (.putfield 9, 3) := by decide +kernel
theorem dX3_init_12 : decode cX3_init 12 = .ok (.aload_n 0, 1) := by decide +kernel
theorem dX3_init_13 : decode cX3_init 13 = .ok (.bipush 10, 2) := by decide +kernel
theorem dX3_init_15 : decode cX3_init 15 = .ok (.newarray .int, 2) := by decide +kernel
theorem dX3_init_17 : decode cX3_init 17 = .ok (.putfield 15, 3) := by decide +kernel
theorem dX3_init_20 : decode cX3_init 20 = .ok (.aload_n 0, 1) := by decide +kernel
theorem dX3_init_21 : decode cX3_init 21 = .ok (.bipush 10, 2) := by decide +kernel
theorem dX3_init_23 : decode cX3_init 23 = .ok (.newarray .int, 2) := by decide +kernel
theorem dX3_init_25 : decode cX3_init 25 = .ok (.putfield 18, 3) := by decide +kernel
theorem dX3_init_28 : decode cX3_init 28 = .ok (.aload_n 0, 1) := by decide +kernel
theorem dX3_init_29 : decode cX3_init 29 = .ok (.iconst 0, 1) := by decide +kernel
theorem dX3_init_30 : decode cX3_init 30 = .ok (.putfield 21, 3) := by decide +kernel
theorem dX3_init_33 : decode cX3_init 33 = .ok (.aload_n 0, 1) := by decide +kernel
theorem dX3_init_34 : decode cX3_init 34 = .ok (.iconst 0, 1) := by decide +kernel
theorem dX3_init_35 : decode cX3_init 35 = .ok (.putfield 25, 3) := by decide +kernel
theorem dX3_init_38 : decode cX3_init 38 = .ok (.return_, 1) := by decide +kernel
theorem dX3_copyFrom_0 : decode cX3_copyFrom 0 = .ok (.aload_n 1, 1) := by decide +kernel
theorem dX3_copyFrom_1 : decode cX3_copyFrom 1 = .ok (.getfield 9, 3) := by decide +kernel
theorem dX3_copyFrom_4 : decode cX3_copyFrom 4 = .ok (.iconst 0, 1) := by decide +kernel
theorem dX3_copyFrom_5 : decode cX3_copyFrom 5 = .ok (.aload_n 0, 1) := by decide +kernel
theorem dX3_copyFrom_6 : decode cX3_copyFrom 6 = .ok (.getfield 9, 3) := by decide +kernel
theorem dX3_copyFrom_9 : decode cX3_copyFrom 9 = .ok (.iconst 0, 1) := by decide +kernel
theorem dX3_copyFrom_10 : decode cX3_copyFrom 10 = .ok (.bipush 10, 2) := by decide +kernel
theorem dX3_copyFrom_12 : decode cX3_copyFrom 12 = .ok (.invokestatic 28, 3) := by decide +kernel
theorem dX3_copyFrom_15 : decode cX3_copyFrom 15 = .ok (.aload_n 1, 1) := by decide +kernel
theorem dX3_copyFrom_16 : decode cX3_copyFrom 16 = .ok (.getfield 15, 3) := by decide +kernel
theorem dX3_copyFrom_19 : decode cX3_copyFrom 19 = .ok (.iconst 0, 1) := by decide +kernel
theorem dX3_copyFrom_20 : decode cX3_copyFrom 20 = .ok (.aload_n 0, 1) := by decide +kernel
theorem dX3_copyFrom_21 : decode cX3_copyFrom 21 = .ok (.getfield 15, 3) := by decide +kernel
theorem dX3_copyFrom_24 : decode cX3_copyFrom 24 = .ok (.iconst 0, 1) := by decide +kernel
theorem dX3_copyFrom_25 : decode cX3_copyFrom 25 = .ok (.bipush 10, 2) := by decide +kernel
theorem dX3_copyFrom_27 : decode cX3_copyFrom 27 = .ok (.invokestatic 28, 3) := by decide +kernel
theorem dX3_copyFrom_30 : decode cX3_copyFrom 30 = .ok (.aload_n 1, 1) := by decide +kernel
theorem dX3_copyFrom_31 : decode cX3_copyFrom 31 = .ok (.getfield 18, 3) := by decide +kernel
theorem dX3_copyFrom_34 : decode cX3_copyFrom 34 = .ok (.iconst 0, 1) := by decide +kernel
theorem dX3_copyFrom_35 : decode cX3_copyFrom 35 = .ok (.aload_n 0, 1) := by decide +kernel
theorem dX3_copyFrom_36 : decode cX3_copyFrom 36 = .ok (.getfield 18, 3) := by decide +kernel
theorem dX3_copyFrom_39 : decode cX3_copyFrom 39 = .ok (.iconst 0, 1) := by decide +kernel
theorem dX3_copyFrom_40 : decode cX3_copyFrom 40 = .ok (.bipush 10, 2) := by decide +kernel
theorem dX3_copyFrom_42 : decode cX3_copyFrom 42 = .ok (.invokestatic 28, 3) := by decide +kernel
theorem dX3_copyFrom_45 : decode cX3_copyFrom 45 = .ok (.aload_n 0, 1) := by decide +kernel
theorem dX3_copyFrom_46 : decode cX3_copyFrom 46 = .ok (.aload_n 1, 1) := by decide +kernel
theorem dX3_copyFrom_47 : decode cX3_copyFrom 47 = .ok (.getfield 21, 3) := by decide +kernel
theorem dX3_copyFrom_50 : decode cX3_copyFrom 50 = .ok (.putfield 21, 3) := by decide +kernel
theorem dX3_copyFrom_53 : decode cX3_copyFrom 53 = .ok (.aload_n 0, 1) := by decide +kernel
theorem dX3_copyFrom_54 : decode cX3_copyFrom 54 = .ok (.aload_n 1, 1) := by decide +kernel
theorem dX3_copyFrom_55 : decode cX3_copyFrom 55 = .ok (.getfield 25, 3) := by decide +kernel
theorem dX3_copyFrom_58 : decode cX3_copyFrom 58 = .ok (.putfield 25, 3) := by decide +kernel
theorem dX3_copyFrom_61 : decode cX3_copyFrom 61 = .ok (.return_, 1) := by decide +kernel
theorem dX3_append_0 : decode cX3_append 0 = .ok (.aload_n 0, 1) := by decide +kernel
theorem dX3_append_1 : decode cX3_append 1 = .ok (.getfield 21, 3) := by decide +kernel
theorem dX3_append_4 : decode cX3_append 4 = .ok (.bipush 10, 2) := by decide +kernel
theorem dX3_append_6 : decode cX3_append 6 = .ok (.if_icmp .lt 8, 3) := by decide +kernel
theorem dX3_append_9 : decode cX3_append 9 = .ok (.aload_n 0, 1) := by decide +kernel
theorem dX3_append_10 : decode cX3_append 10 = .ok (.iconst 0, 1) := by decide +kernel
theorem dX3_append_11 : decode cX3_append 11 = .ok (.putfield 21, 3) := by decide +kernel
theorem dX3_append_14 : decode cX3_append 14 = .ok (.aload_n 0, 1) := by decide +kernel
theorem dX3_append_15 : decode cX3_append 15 = .ok (.getfield 9, 3) := by decide +kernel
theorem dX3_append_18 : decode cX3_append 18 = .ok (.aload_n 0, 1) := by decide +kernel
theorem dX3_append_19 : decode cX3_append 19 = .ok (.getfield 21, 3) := by decide +kernel
theorem dX3_append_22 : decode cX3_append 22 = .ok (.iload_n 1, 1) := by decide +kernel
theorem dX3_append_23 : decode cX3_append 23 = .ok (.iastore, 1) := by decide +kernel
theorem dX3_append_24 : decode cX3_append 24 = .ok (.aload_n 0, 1) := by decide +kernel
theorem dX3_append_25 : decode cX3_append 25 = .ok (.getfield 15, 3) := by decide +kernel
theorem dX3_append_28 : decode cX3_append 28 = .ok (.aload_n 0, 1) := by decide +kernel
theorem dX3_append_29 : decode cX3_append 29 = .ok (.getfield 21, 3) := by decide +kernel
theorem dX3_append_32 : decode cX3_append 32 = .ok (.iload_n 2, 1) := by decide +kernel
theorem dX3_append_33 : decode cX3_append 33 = .ok (.iastore, 1) := by decide +kernel
theorem dX3_append_34 : decode cX3_append 34 = .ok (.aload_n 0, 1) := by decide +kernel
theorem dX3_append_35 : decode cX3_append 35 = .ok (.getfield 18, 3) := by decide +kernel
theorem dX3_append_38 : decode cX3_append 38 = .ok (.aload_n 0, 1) := by decide +kernel
theorem dX3_append_39 : decode cX3_append 39 = .ok (.getfield 21, 3) := by decide +kernel
theorem dX3_append_42 : decode cX3_append 42 = .ok (.iload_n 3, 1) := by decide +kernel
theorem dX3_append_43 : decode cX3_append 43 = .ok (.iastore, 1) := by decide +kernel
theorem dX3_append_44 : decode cX3_append 44 = .ok (.aload_n 0, 1) := by decide +kernel
theorem dX3_append_45 : decode cX3_append 45 = .ok (.dup, 1) := by decide +kernel
theorem dX3_append_46 : decode cX3_append 46 = .ok (.getfield 21, 3) := by decide +kernel
theorem dX3_append_49 : decode cX3_append 49 = .ok (.iconst 1, 1) := by decide +kernel
theorem dX3_append_50 : decode cX3_append 50 = .ok (.iadd, 1) := by decide +kernel
theorem dX3_append_51 : decode cX3_append 51 = .ok (.putfield 21, 3) := by decide +kernel
theorem dX3_append_54 : decode cX3_append 54 = .ok (.aload_n 0, 1) := by decide +kernel
theorem dX3_append_55 : decode cX3_append 55 = .ok (.getfield 25, 3) := by decide +kernel
theorem dX3_append_58 : decode cX3_append 58 = .ok (.bipush 10, 2) := by decide +kernel
theorem dX3_append_60 : decode cX3_append 60 = .ok (.if_icmp .ge 13, 3) := by decide +kernel
theorem dX3_append_63 : decode cX3_append 63 = .ok (.aload_n 0, 1) := by decide +kernel
theorem dX3_append_64 : decode cX3_append 64 = .ok (.dup, 1) := by decide +kernel
theorem dX3_append_65 : decode cX3_append 65 = .ok (.getfield 25, 3) := by decide +kernel
theorem dX3_append_68 : decode cX3_append 68 = .ok (.iconst 1, 1) := by decide +kernel
theorem dX3_append_69 : decode cX3_append 69 = .ok (.iadd, 1) := by decide +kernel
theorem dX3_append_70 : decode cX3_append 70 = .ok (.putfield 25, 3) := by decide +kernel
theorem dX3_append_73 : decode cX3_append 73 = .ok (.return_, 1) := by decide +kernel
theorem dX3_has_0 : decode cX3_has 0 = .ok (.iload_n 1, 1) := by decide +kernel
theorem dX3_has_1 : decode cX3_has 1 = .ok (.ifCond .lt 15, 3) := by decide +kernel
theorem dX3_has_4 : decode cX3_has 4 = .ok (.iload_n 1, 1) := by decide +kernel
theorem dX3_has_5 : decode cX3_has 5 = .ok (.aload_n 0, 1) := by decide +kernel
theorem dX3_has_6 : decode cX3_has 6 = .ok (.getfield 25, 3) := by decide +kernel
theorem dX3_has_9 : decode cX3_has 9 = .ok (.if_icmp .ge 7, 3) := by decide +kernel
theorem dX3_has_12 : decode cX3_has 12 = .ok (.iconst 1, 1) := by decide +kernel
theorem dX3_has_13 : decode cX3_has 13 = .ok (.goto 4, 3) := by decide +kernel
theorem dX3_has_16 : decode cX3_has 16 = .ok (.iconst 0, 1) := by decide +kernel
theorem dX3_has_17 : decode cX3_has 17 = .ok (.ireturn, 1) := by decide +kernel
theorem dX3_tickAt_0 : decode cX3_tickAt 0 = .ok (.aload_n 0, 1) := by decide +kernel
theorem dX3_tickAt_1 : decode cX3_tickAt 1 = .ok (.getfield 9, 3) := by decide +kernel
theorem dX3_tickAt_4 : decode cX3_tickAt 4 = .ok (.aload_n 0, 1) := by decide +kernel
theorem dX3_tickAt_5 : decode cX3_tickAt 5 = .ok (.iload_n 1, 1) := by decide +kernel
theorem dX3_tickAt_6 : decode cX3_tickAt 6 = .ok (.invokevirtual 34, 3) := by decide +kernel
theorem dX3_tickAt_9 : decode cX3_tickAt 9 = .ok (.iaload, 1) := by decide +kernel
theorem dX3_tickAt_10 : decode cX3_tickAt 10 = .ok (.ireturn, 1) := by decide +kernel
theorem dX3_kindAt_0 : decode cX3_kindAt 0 = .ok (.aload_n 0, 1) := by decide +kernel
theorem dX3_kindAt_1 : decode cX3_kindAt 1 = .ok (.getfield 15, 3) := by decide +kernel
theorem dX3_kindAt_4 : decode cX3_kindAt 4 = .ok (.aload_n 0, 1) := by decide +kernel
theorem dX3_kindAt_5 : decode cX3_kindAt 5 = .ok (.iload_n 1, 1) := by decide +kernel
theorem dX3_kindAt_6 : decode cX3_kindAt 6 = .ok (.invokevirtual 34, 3) := by decide +kernel
theorem dX3_kindAt_9 : decode cX3_kindAt 9 = .ok (.iaload, 1) := by decide +kernel
theorem dX3_kindAt_10 : decode cX3_kindAt 10 = .ok (.ireturn, 1) := by decide +kernel
theorem dX3_spanAt_0 : decode cX3_spanAt 0 = .ok (.aload_n 0, 1) := by decide +kernel
theorem dX3_spanAt_1 : decode cX3_spanAt 1 = .ok (.getfield 18, 3) := by decide +kernel
theorem dX3_spanAt_4 : decode cX3_spanAt 4 = .ok (.aload_n 0, 1) := by decide +kernel
theorem dX3_spanAt_5 : decode cX3_spanAt 5 = .ok (.iload_n 1, 1) := by decide +kernel
theorem dX3_spanAt_6 : decode cX3_spanAt 6 = .ok (.invokevirtual 34, 3) := by decide +kernel
theorem dX3_spanAt_9 : decode cX3_spanAt 9 = .ok (.iaload, 1) := by decide +kernel
theorem dX3_spanAt_10 : decode cX3_spanAt 10 = .ok (.ireturn, 1) := by decide +kernel
theorem dX3_placeOf_0 : decode cX3_placeOf 0 = .ok (.aload_n 0, 1) := by decide +kernel
theorem dX3_placeOf_1 : decode cX3_placeOf 1 = .ok (.getfield 21, 3) := by decide +kernel
theorem dX3_placeOf_4 : decode cX3_placeOf 4 = .ok (.aload_n 0, 1) := by decide +kernel
theorem dX3_placeOf_5 : decode cX3_placeOf 5 = .ok (.getfield 25, 3) := by decide +kernel
theorem dX3_placeOf_8 : decode cX3_placeOf 8 = .ok (.isub, 1) := by decide +kernel
theorem dX3_placeOf_9 : decode cX3_placeOf 9 = .ok (.iload_n 1, 1) := by decide +kernel
theorem dX3_placeOf_10 : decode cX3_placeOf 10 = .ok (.iadd, 1) := by decide +kernel
theorem dX3_placeOf_11 : decode cX3_placeOf 11 = .ok (.bipush 10, 2) := by decide +kernel
theorem dX3_placeOf_13 : decode cX3_placeOf 13 = .ok (.invokestatic 38, 3) := by decide +kernel
theorem dX3_placeOf_16 : decode cX3_placeOf 16 = .ok (.ireturn, 1) := by decide +kernel
theorem dX4_init_0 : decode cX4_init 0 = .ok (.aload_n 0, 1) := by decide +kernel
theorem dX4_init_1 : decode cX4_init 1 = .ok (.invokespecial 3, 3) := by decide +kernel
theorem dX4_init_4 : decode cX4_init 4 = .ok (.aload_n 0, 1) := by decide +kernel
theorem dX4_init_5 : decode cX4_init 5 = .ok (.bipush 80, 2) := by decide +kernel
theorem dX4_init_7 : decode cX4_init 7 = .ok (.newarray .char, 2) := by decide +kernel
theorem dX4_init_9 : decode cX4_init 9 = .ok (.putfield 9, 3) := by decide +kernel
theorem dX4_init_12 : decode cX4_init 12 = .ok (.aload_n 0, 1) := by decide +kernel
theorem dX4_init_13 : decode cX4_init 13 = .ok (.iconst 0, 1) := by decide +kernel
theorem dX4_init_14 : decode cX4_init 14 = .ok (.putfield 15, 3) := by decide +kernel
theorem dX4_init_17 : decode cX4_init 17 = .ok (.aload_n 0, 1) := by decide +kernel
theorem dX4_init_18 : decode cX4_init 18 = .ok (.iconst 0, 1) := by decide +kernel
theorem dX4_init_19 : decode cX4_init 19 = .ok (.putfield 19, 3) := by decide +kernel
theorem dX4_init_22 : decode cX4_init 22 = .ok (.aload_n 0, 1) := by decide +kernel
theorem dX4_init_23 : decode cX4_init 23 = .ok (.bipush 16, 2) := by decide +kernel
theorem dX4_init_25 : decode cX4_init 25 = .ok (.newarray .int, 2) := by decide +kernel
theorem dX4_init_27 : decode cX4_init 27 = .ok (.putfield 22, 3) := by decide +kernel
theorem dX4_init_30 : decode cX4_init 30 = .ok (.aload_n 0, 1) := by decide +kernel
theorem dX4_init_31 : decode cX4_init 31 = .ok (.bipush 16, 2) := by decide +kernel
theorem dX4_init_33 : decode cX4_init 33 = .ok (.newarray .int, 2) := by decide +kernel
theorem dX4_init_35 : decode cX4_init 35 = .ok (.putfield 26, 3) := by decide +kernel
theorem dX4_init_38 : decode cX4_init 38 = .ok (.aload_n 0, 1) := by decide +kernel
theorem dX4_init_39 : decode cX4_init 39 = .ok (.bipush 16, 2) := by decide +kernel
theorem dX4_init_41 : decode cX4_init 41 = .ok (.newarray .int, 2) := by decide +kernel
theorem dX4_init_43 : decode cX4_init 43 = .ok (.putfield 29, 3) := by decide +kernel
theorem dX4_init_46 : decode cX4_init 46 = .ok (.aload_n 0, 1) := by decide +kernel
theorem dX4_init_47 : decode cX4_init 47 = .ok (.iconst 0, 1) := by decide +kernel
theorem dX4_init_48 : decode cX4_init 48 = .ok (.putfield 32, 3) := by decide +kernel
theorem dX4_init_51 : decode cX4_init 51 = .ok (.aload_n 0, 1) := by decide +kernel
theorem dX4_init_52 : decode cX4_init 52 = .ok (.iconst 0, 1) := by decide +kernel
theorem dX4_init_53 : decode cX4_init 53 = .ok (.putfield 35, 3) := by decide +kernel
theorem dX4_init_56 : decode cX4_init 56 = .ok (.return_, 1) := by decide +kernel
theorem dX4_append_0 : decode cX4_append 0 = .ok (.iload_n 1, 1) := by decide +kernel
theorem dX4_append_1 : decode cX4_append 1 = .ok (.bipush 32, 2) := by decide +kernel
theorem dX4_append_3 : decode cX4_append 3 = .ok (.if_icmp .lt 9, 3) := by decide +kernel
theorem dX4_append_6 : decode cX4_append 6 = .ok (.iload_n 1, 1) := by decide +kernel
theorem dX4_append_7 : decode cX4_append 7 = .ok (.bipush 126, 2) := by decide +kernel
theorem dX4_append_9 : decode cX4_append 9 = .ok (.if_icmp .le 6, 3) := by decide +kernel
theorem dX4_append_12 : decode cX4_append 12 = .ok (.bipush (-2), 2) := by decide +kernel
theorem dX4_append_14 : decode cX4_append 14 = .ok (.ireturn, 1) := by decide +kernel
theorem dX4_append_15 : decode cX4_append 15 = .ok (.aload_n 0, 1) := by decide +kernel
theorem dX4_append_16 : decode cX4_append 16 = .ok (.getfield 15, 3) := by decide +kernel
theorem dX4_append_19 : decode cX4_append 19 = .ok (.bipush 80, 2) := by decide +kernel
theorem dX4_append_21 : decode cX4_append 21 = .ok (.if_icmp .lt 6, 3) := by decide +kernel
theorem dX4_append_24 : decode cX4_append 24 = .ok (.bipush (-4), 2) := by decide +kernel
theorem dX4_append_26 : decode cX4_append 26 = .ok (.ireturn, 1) := by decide +kernel
theorem dX4_append_27 : decode cX4_append 27 = .ok (.aload_n 0, 1) := by decide +kernel
theorem dX4_append_28 : decode cX4_append 28 = .ok (.getfield 9, 3) := by decide +kernel
theorem dX4_append_31 : decode cX4_append 31 = .ok (.aload_n 0, 1) := by decide +kernel
theorem dX4_append_32 : decode cX4_append 32 = .ok (.getfield 15, 3) := by decide +kernel
theorem dX4_append_35 : decode cX4_append 35 = .ok (.iload_n 1, 1) := by decide +kernel
theorem dX4_append_36 : decode cX4_append 36 = .ok (.i2c, 1) := by decide +kernel
theorem dX4_append_37 : decode cX4_append 37 = .ok (.castore, 1) := by decide +kernel
theorem dX4_append_38 : decode cX4_append 38 = .ok (.aload_n 0, 1) := by decide +kernel
theorem dX4_append_39 : decode cX4_append 39 = .ok (.dup, 1) := by decide +kernel
theorem dX4_append_40 : decode cX4_append 40 = .ok (.getfield 15, 3) := by decide +kernel
theorem dX4_append_43 : decode cX4_append 43 = .ok (.iconst 1, 1) := by decide +kernel
theorem dX4_append_44 : decode cX4_append 44 = .ok (.iadd, 1) := by decide +kernel
theorem dX4_append_45 : decode cX4_append 45 = .ok (.putfield 15, 3) := by decide +kernel
theorem dX4_append_48 : decode cX4_append 48 = .ok (.aload_n 0, 1) := by decide +kernel
theorem dX4_append_49 : decode cX4_append 49 = .ok (.getfield 15, 3) := by decide +kernel
theorem dX4_append_52 : decode cX4_append 52 = .ok (.ireturn, 1) := by decide +kernel
theorem dX4_clear_0 : decode cX4_clear 0 = .ok (.aload_n 0, 1) := by decide +kernel
theorem dX4_clear_1 : decode cX4_clear 1 = .ok (.getfield 15, 3) := by decide +kernel
theorem dX4_clear_4 : decode cX4_clear 4 = .ok (.istore_n 1, 1) := by decide +kernel
theorem dX4_clear_5 : decode cX4_clear 5 = .ok (.aload_n 0, 1) := by decide +kernel
theorem dX4_clear_6 : decode cX4_clear 6 = .ok (.iconst 0, 1) := by decide +kernel
theorem dX4_clear_7 : decode cX4_clear 7 = .ok (.putfield 15, 3) := by decide +kernel
theorem dX4_clear_10 : decode cX4_clear 10 = .ok (.iload_n 1, 1) := by decide +kernel
theorem dX4_clear_11 : decode cX4_clear 11 = .ok (.ireturn, 1) := by decide +kernel
theorem dX4_findError_0 : decode cX4_findError 0 = .ok (.aload_n 0, 1) := by decide +kernel
theorem dX4_findError_1 : decode cX4_findError 1 = .ok (.iconst 0, 1) := by decide +kernel
theorem dX4_findError_2 : decode cX4_findError 2 = .ok (.putfield 19, 3) := by decide +kernel
theorem dX4_findError_5 : decode cX4_findError 5 = .ok (.aload_n 0, 1) := by decide +kernel
theorem dX4_findError_6 : decode cX4_findError 6 = .ok (.iconst 0, 1) := by decide +kernel
theorem dX4_findError_7 : decode cX4_findError 7 = .ok (.putfield 32, 3) := by decide +kernel
theorem dX4_findError_10 : decode cX4_findError 10 = .ok (.aload_n 0, 1) := by decide +kernel
theorem dX4_findError_11 : decode cX4_findError 11 = .ok (.getfield 32, 3) := by decide +kernel
theorem dX4_findError_14 : decode cX4_findError 14 = .ok (.bipush 16, 2) := by decide +kernel
theorem dX4_findError_16 : decode cX4_findError 16 = .ok (.if_icmp .ge 57, 3) := by decide +kernel
theorem dX4_findError_19 : decode cX4_findError 19 = .ok (.aload_n 0, 1) := by decide +kernel
theorem dX4_findError_20 : decode cX4_findError 20 = .ok (.aload_n 0, 1) := by decide +kernel
theorem dX4_findError_21 : decode cX4_findError 21 = .ok (.getfield 32, 3) := by decide +kernel
theorem dX4_findError_24 : decode cX4_findError 24 = .ok (.invokevirtual 38, 3) := by decide +kernel
theorem dX4_findError_27 : decode cX4_findError 27 = .ok (.ifCond .ne 8, 3) := by decide +kernel
theorem dX4_findError_30 : decode cX4_findError 30 = .ok (.aload_n 0, 1) := by decide +kernel
theorem dX4_findError_31 : decode cX4_findError 31 = .ok (.getfield 19, 3) := by decide +kernel
theorem dX4_findError_34 : decode cX4_findError 34 = .ok (.ireturn, 1) := by decide +kernel
theorem dX4_findError_35 : decode cX4_findError 35 = .ok (.aload_n 0, 1) := by decide +kernel
theorem dX4_findError_36 : decode cX4_findError 36 = .ok (.dup, 1) := by decide +kernel
theorem dX4_findError_37 : decode cX4_findError 37 = .ok (.getfield 32, 3) := by decide +kernel
theorem dX4_findError_40 : decode cX4_findError 40 = .ok (.iconst 1, 1) := by decide +kernel
theorem dX4_findError_41 : decode cX4_findError 41 = .ok (.iadd, 1) := by decide +kernel
theorem dX4_findError_42 : decode cX4_findError 42 = .ok (.putfield 32, 3) := by decide +kernel
theorem dX4_findError_45 : decode cX4_findError 45 = .ok (.aload_n 0, 1) := by decide +kernel
theorem dX4_findError_46 : decode cX4_findError 46 = .ok (.getfield 19, 3) := by decide +kernel
theorem dX4_findError_49 : decode cX4_findError 49 = .ok (.aload_n 0, 1) := by decide +kernel
theorem dX4_findError_50 : decode cX4_findError 50 = .ok (.getfield 15, 3) := by decide +kernel
theorem dX4_findError_53 : decode cX4_findError 53 = .ok (.if_icmp .ne 6, 3) := by decide +kernel
theorem dX4_findError_56 : decode cX4_findError 56 = .ok (.bipush (-6), 2) := by decide +kernel
theorem dX4_findError_58 : decode cX4_findError 58 = .ok (.ireturn, 1) := by decide +kernel
theorem dX4_findError_59 : decode cX4_findError 59 = .ok (.aload_n 0, 1) := by decide +kernel
theorem dX4_findError_60 : decode cX4_findError 60 = .ok (.bipush 59, 2) := by decide +kernel
theorem dX4_findError_62 : decode cX4_findError 62 = .ok (.invokevirtual 42, 3) := by decide +kernel
theorem dX4_findError_65 : decode cX4_findError 65 = .ok (.ifCond .ne (-55), 3) := by decide +kernel
theorem dX4_findError_68 : decode cX4_findError 68 = .ok (.aload_n 0, 1) := by decide +kernel
theorem dX4_findError_69 : decode cX4_findError 69 = .ok (.getfield 19, 3) := by decide +kernel
theorem dX4_findError_72 : decode cX4_findError 72 = .ok (.ireturn, 1) := by decide +kernel
theorem dX4_findError_73 : decode cX4_findError 73 = .ok (.aload_n 0, 1) := by decide +kernel
theorem dX4_findError_74 : decode cX4_findError 74 = .ok (.getfield 19, 3) := by decide +kernel
theorem dX4_findError_77 : decode cX4_findError 77 = .ok (.ireturn, 1) := by decide +kernel
theorem dX4_takeCommand_0 : decode cX4_takeCommand 0 = .ok (.aload_n 0, 1) := by decide +kernel
theorem dX4_takeCommand_1 : decode cX4_takeCommand 1 = .ok (.invokevirtual 46, 3) := by decide +kernel
theorem dX4_takeCommand_4 : decode cX4_takeCommand 4 = .ok (.lookupswitch 259 #[(97, 138), (113, 107), (114, 52), (115, 169), (119, 228)], 52) := by decide +kernel
theorem dX4_takeCommand_56 : decode cX4_takeCommand 56 = .ok (.aload_n 0, 1) := by decide +kernel
theorem dX4_takeCommand_57 : decode cX4_takeCommand 57 = .ok (.ldc 50, 2) := by decide +kernel
theorem dX4_takeCommand_59 : decode cX4_takeCommand 59 = .ok (.invokevirtual 52, 3) := by decide +kernel
theorem dX4_takeCommand_62 : decode cX4_takeCommand 62 = .ok (.ifCond .eq 47, 3) := by decide +kernel
theorem dX4_takeCommand_65 : decode cX4_takeCommand 65 = .ok (.aload_n 0, 1) := by decide +kernel
theorem dX4_takeCommand_66 : decode cX4_takeCommand 66 = .ok (.invokevirtual 56, 3) := by decide +kernel
theorem dX4_takeCommand_69 : decode cX4_takeCommand 69 = .ok (.ifCond .eq 40, 3) := by decide +kernel
theorem dX4_takeCommand_72 : decode cX4_takeCommand 72 = .ok (.aload_n 0, 1) := by decide +kernel
theorem dX4_takeCommand_73 : decode cX4_takeCommand 73 = .ok (.iload_n 1, 1) := by decide +kernel
theorem dX4_takeCommand_74 : decode cX4_takeCommand 74 = .ok (.iconst 1, 1) := by decide +kernel
theorem dX4_takeCommand_75 : decode cX4_takeCommand 75 = .ok (.invokevirtual 60, 3) := by decide +kernel
theorem dX4_takeCommand_78 : decode cX4_takeCommand 78 = .ok (.ifCond .eq 31, 3) := by decide +kernel
theorem dX4_takeCommand_81 : decode cX4_takeCommand 81 = .ok (.aload_n 0, 1) := by decide +kernel
theorem dX4_takeCommand_82 : decode cX4_takeCommand 82 = .ok (.bipush 58, 2) := by decide +kernel
theorem dX4_takeCommand_84 : decode cX4_takeCommand 84 = .ok (.invokevirtual 42, 3) := by decide +kernel
theorem dX4_takeCommand_87 : decode cX4_takeCommand 87 = .ok (.ifCond .eq 22, 3) := by decide +kernel
theorem dX4_takeCommand_90 : decode cX4_takeCommand 90 = .ok (.aload_n 0, 1) := by decide +kernel
theorem dX4_takeCommand_91 : decode cX4_takeCommand 91 = .ok (.invokevirtual 64, 3) := by decide +kernel
theorem dX4_takeCommand_94 : decode cX4_takeCommand 94 = .ok (.ifCond .eq 15, 3) := by decide +kernel
theorem dX4_takeCommand_97 : decode cX4_takeCommand 97 = .ok (.aload_n 0, 1) := by decide +kernel
theorem dX4_takeCommand_98 : decode cX4_takeCommand 98 = .ok (.iload_n 1, 1) := by decide +kernel
theorem dX4_takeCommand_99 : decode cX4_takeCommand 99 = .ok (.invokevirtual 67, 3) := by decide +kernel
theorem dX4_takeCommand_102 : decode cX4_takeCommand 102 = .ok (.ifCond .eq 7, 3) := by decide +kernel
theorem dX4_takeCommand_105 : decode cX4_takeCommand 105 = .ok (.iconst 1, 1) := by decide +kernel
theorem dX4_takeCommand_106 : decode cX4_takeCommand 106 = .ok (.goto 4, 3) := by decide +kernel
theorem dX4_takeCommand_109 : decode cX4_takeCommand 109 = .ok (.iconst 0, 1) := by decide +kernel
theorem dX4_takeCommand_110 : decode cX4_takeCommand 110 = .ok (.ireturn, 1) := by decide +kernel
theorem dX4_takeCommand_111 : decode cX4_takeCommand 111 = .ok (.aload_n 0, 1) := by decide +kernel
theorem dX4_takeCommand_112 : decode cX4_takeCommand 112 = .ok (.ldc 70, 2) := by decide +kernel
theorem dX4_takeCommand_114 : decode cX4_takeCommand 114 = .ok (.invokevirtual 52, 3) := by decide +kernel
theorem dX4_takeCommand_117 : decode cX4_takeCommand 117 = .ok (.ifCond .eq 23, 3) := by decide +kernel
theorem dX4_takeCommand_120 : decode cX4_takeCommand 120 = .ok (.aload_n 0, 1) := by decide +kernel
theorem dX4_takeCommand_121 : decode cX4_takeCommand 121 = .ok (.invokevirtual 64, 3) := by decide +kernel
theorem dX4_takeCommand_124 : decode cX4_takeCommand 124 = .ok (.ifCond .eq 16, 3) := by decide +kernel
theorem dX4_takeCommand_127 : decode cX4_takeCommand 127 = .ok (.aload_n 0, 1) := by decide +kernel
theorem dX4_takeCommand_128 : decode cX4_takeCommand 128 = .ok (.iload_n 1, 1) := by decide +kernel
theorem dX4_takeCommand_129 : decode cX4_takeCommand 129 = .ok (.iconst 2, 1) := by decide +kernel
theorem dX4_takeCommand_130 : decode cX4_takeCommand 130 = .ok (.invokevirtual 60, 3) := by decide +kernel
theorem dX4_takeCommand_133 : decode cX4_takeCommand 133 = .ok (.ifCond .eq 7, 3) := by decide +kernel
theorem dX4_takeCommand_136 : decode cX4_takeCommand 136 = .ok (.iconst 1, 1) := by decide +kernel
theorem dX4_takeCommand_137 : decode cX4_takeCommand 137 = .ok (.goto 4, 3) := by decide +kernel
theorem dX4_takeCommand_140 : decode cX4_takeCommand 140 = .ok (.iconst 0, 1) := by decide +kernel
theorem dX4_takeCommand_141 : decode cX4_takeCommand 141 = .ok (.ireturn, 1) := by decide +kernel
theorem dX4_takeCommand_142 : decode cX4_takeCommand 142 = .ok (.aload_n 0, 1) := by decide +kernel
theorem dX4_takeCommand_143 : decode cX4_takeCommand 143 = .ok (.ldc 72, 2) := by decide +kernel
theorem dX4_takeCommand_145 : decode cX4_takeCommand 145 = .ok (.invokevirtual 52, 3) := by decide +kernel
theorem dX4_takeCommand_148 : decode cX4_takeCommand 148 = .ok (.ifCond .eq 23, 3) := by decide +kernel
theorem dX4_takeCommand_151 : decode cX4_takeCommand 151 = .ok (.aload_n 0, 1) := by decide +kernel
theorem dX4_takeCommand_152 : decode cX4_takeCommand 152 = .ok (.invokevirtual 56, 3) := by decide +kernel
theorem dX4_takeCommand_155 : decode cX4_takeCommand 155 = .ok (.ifCond .eq 16, 3) := by decide +kernel
theorem dX4_takeCommand_158 : decode cX4_takeCommand 158 = .ok (.aload_n 0, 1) := by decide +kernel
theorem dX4_takeCommand_159 : decode cX4_takeCommand 159 = .ok (.iload_n 1, 1) := by decide +kernel
theorem dX4_takeCommand_160 : decode cX4_takeCommand 160 = .ok (.iconst 3, 1) := by decide +kernel
theorem dX4_takeCommand_161 : decode cX4_takeCommand 161 = .ok (.invokevirtual 60, 3) := by decide +kernel
theorem dX4_takeCommand_164 : decode cX4_takeCommand 164 = .ok (.ifCond .eq 7, 3) := by decide +kernel
theorem dX4_takeCommand_167 : decode cX4_takeCommand 167 = .ok (.iconst 1, 1) := by decide +kernel
theorem dX4_takeCommand_168 : decode cX4_takeCommand 168 = .ok (.goto 4, 3) := by decide +kernel
theorem dX4_takeCommand_171 : decode cX4_takeCommand 171 = .ok (.iconst 0, 1) := by decide +kernel
theorem dX4_takeCommand_172 : decode cX4_takeCommand 172 = .ok (.ireturn, 1) := by decide +kernel
theorem dX4_takeCommand_173 : decode cX4_takeCommand 173 = .ok (.aload_n 0, 1) := by decide +kernel
theorem dX4_takeCommand_174 : decode cX4_takeCommand 174 = .ok (.ldc 74, 2) := by decide +kernel
theorem dX4_takeCommand_176 : decode cX4_takeCommand 176 = .ok (.invokevirtual 52, 3) := by decide +kernel
theorem dX4_takeCommand_179 : decode cX4_takeCommand 179 = .ok (.ifCond .eq 51, 3) := by decide +kernel
theorem dX4_takeCommand_182 : decode cX4_takeCommand 182 = .ok (.aload_n 0, 1) := by decide +kernel
theorem dX4_takeCommand_183 : decode cX4_takeCommand 183 = .ok (.invokevirtual 56, 3) := by decide +kernel
theorem dX4_takeCommand_186 : decode cX4_takeCommand 186 = .ok (.ifCond .eq 44, 3) := by decide +kernel
theorem dX4_takeCommand_189 : decode cX4_takeCommand 189 = .ok (.aload_n 0, 1) := by decide +kernel
theorem dX4_takeCommand_190 : decode cX4_takeCommand 190 = .ok (.iload_n 1, 1) := by decide +kernel
theorem dX4_takeCommand_191 : decode cX4_takeCommand 191 = .ok (.iconst 4, 1) := by decide +kernel
theorem dX4_takeCommand_192 : decode cX4_takeCommand 192 = .ok (.invokevirtual 60, 3) := by decide +kernel
theorem dX4_takeCommand_195 : decode cX4_takeCommand 195 = .ok (.ifCond .eq 35, 3) := by decide +kernel
theorem dX4_takeCommand_198 : decode cX4_takeCommand 198 = .ok (.aload_n 0, 1) := by decide +kernel
theorem dX4_takeCommand_199 : decode cX4_takeCommand 199 = .ok (.bipush 58, 2) := by decide +kernel
theorem dX4_takeCommand_201 : decode cX4_takeCommand 201 = .ok (.invokevirtual 42, 3) := by decide +kernel
theorem dX4_takeCommand_204 : decode cX4_takeCommand 204 = .ok (.ifCond .eq 26, 3) := by decide +kernel
theorem dX4_takeCommand_207 : decode cX4_takeCommand 207 = .ok (.aload_n 0, 1) := by decide +kernel
theorem dX4_takeCommand_208 : decode cX4_takeCommand 208 = .ok (.bipush 49, 2) := by decide +kernel
theorem dX4_takeCommand_210 : decode cX4_takeCommand 210 = .ok (.bipush 57, 2) := by decide +kernel
theorem dX4_takeCommand_212 : decode cX4_takeCommand 212 = .ok (.invokevirtual 76, 3) := by decide +kernel
theorem dX4_takeCommand_215 : decode cX4_takeCommand 215 = .ok (.ifCond .eq 15, 3) := by decide +kernel
theorem dX4_takeCommand_218 : decode cX4_takeCommand 218 = .ok (.aload_n 0, 1) := by decide +kernel
theorem dX4_takeCommand_219 : decode cX4_takeCommand 219 = .ok (.iload_n 1, 1) := by decide +kernel
theorem dX4_takeCommand_220 : decode cX4_takeCommand 220 = .ok (.invokevirtual 67, 3) := by decide +kernel
theorem dX4_takeCommand_223 : decode cX4_takeCommand 223 = .ok (.ifCond .eq 7, 3) := by decide +kernel
theorem dX4_takeCommand_226 : decode cX4_takeCommand 226 = .ok (.iconst 1, 1) := by decide +kernel
theorem dX4_takeCommand_227 : decode cX4_takeCommand 227 = .ok (.goto 4, 3) := by decide +kernel
theorem dX4_takeCommand_230 : decode cX4_takeCommand 230 = .ok (.iconst 0, 1) := by decide +kernel
theorem dX4_takeCommand_231 : decode cX4_takeCommand 231 = .ok (.ireturn, 1) := by decide +kernel
theorem dX4_takeCommand_232 : decode cX4_takeCommand 232 = .ok (.aload_n 0, 1) := by decide +kernel
theorem dX4_takeCommand_233 : decode cX4_takeCommand 233 = .ok (.ldc 80, 2) := by decide +kernel
theorem dX4_takeCommand_235 : decode cX4_takeCommand 235 = .ok (.invokevirtual 52, 3) := by decide +kernel
theorem dX4_takeCommand_238 : decode cX4_takeCommand 238 = .ok (.ifCond .eq 23, 3) := by decide +kernel
theorem dX4_takeCommand_241 : decode cX4_takeCommand 241 = .ok (.aload_n 0, 1) := by decide +kernel
theorem dX4_takeCommand_242 : decode cX4_takeCommand 242 = .ok (.invokevirtual 82, 3) := by decide +kernel
theorem dX4_takeCommand_245 : decode cX4_takeCommand 245 = .ok (.ifCond .eq 16, 3) := by decide +kernel
theorem dX4_takeCommand_248 : decode cX4_takeCommand 248 = .ok (.aload_n 0, 1) := by decide +kernel
theorem dX4_takeCommand_249 : decode cX4_takeCommand 249 = .ok (.iload_n 1, 1) := by decide +kernel
theorem dX4_takeCommand_250 : decode cX4_takeCommand 250 = .ok (.iconst 5, 1) := by decide +kernel
theorem dX4_takeCommand_251 : decode cX4_takeCommand 251 = .ok (.invokevirtual 60, 3) := by decide +kernel
theorem dX4_takeCommand_254 : decode cX4_takeCommand 254 = .ok (.ifCond .eq 7, 3) := by decide +kernel
theorem dX4_takeCommand_257 : decode cX4_takeCommand 257 = .ok (.iconst 1, 1) := by decide +kernel
theorem dX4_takeCommand_258 : decode cX4_takeCommand 258 = .ok (.goto 4, 3) := by decide +kernel
theorem dX4_takeCommand_261 : decode cX4_takeCommand 261 = .ok (.iconst 0, 1) := by decide +kernel
theorem dX4_takeCommand_262 : decode cX4_takeCommand 262 = .ok (.ireturn, 1) := by decide +kernel
theorem dX4_takeCommand_263 : decode cX4_takeCommand 263 = .ok (.iconst 0, 1) := by decide +kernel
theorem dX4_takeCommand_264 : decode cX4_takeCommand 264 = .ok (.ireturn, 1) := by decide +kernel
theorem dX4_note_0 : decode cX4_note 0 = .ok (.iload_n 1, 1) := by decide +kernel
theorem dX4_note_1 : decode cX4_note 1 = .ok (.ifCond .lt 26, 3) := by decide +kernel
theorem dX4_note_4 : decode cX4_note 4 = .ok (.iload_n 1, 1) := by decide +kernel
theorem dX4_note_5 : decode cX4_note 5 = .ok (.bipush 16, 2) := by decide +kernel
theorem dX4_note_7 : decode cX4_note 7 = .ok (.if_icmp .ge 20, 3) := by decide +kernel
theorem dX4_note_10 : decode cX4_note 10 = .ok (.aload_n 0, 1) := by decide +kernel
theorem dX4_note_11 : decode cX4_note 11 = .ok (.getfield 22, 3) := by decide +kernel
theorem dX4_note_14 : decode cX4_note 14 = .ok (.iload_n 1, 1) := by decide +kernel
theorem dX4_note_15 : decode cX4_note 15 = .ok (.iload_n 2, 1) := by decide +kernel
theorem dX4_note_16 : decode cX4_note 16 = .ok (.iastore, 1) := by decide +kernel
theorem dX4_note_17 : decode cX4_note 17 = .ok (.aload_n 0, 1) := by decide +kernel
theorem dX4_note_18 : decode cX4_note 18 = .ok (.getfield 26, 3) := by decide +kernel
theorem dX4_note_21 : decode cX4_note 21 = .ok (.iload_n 1, 1) := by decide +kernel
theorem dX4_note_22 : decode cX4_note 22 = .ok (.aload_n 0, 1) := by decide +kernel
theorem dX4_note_23 : decode cX4_note 23 = .ok (.getfield 35, 3) := by decide +kernel
theorem dX4_note_26 : decode cX4_note 26 = .ok (.iastore, 1) := by decide +kernel
theorem dX4_note_27 : decode cX4_note 27 = .ok (.iconst 1, 1) := by decide +kernel
theorem dX4_note_28 : decode cX4_note 28 = .ok (.ireturn, 1) := by decide +kernel
theorem dX4_noteSecond_0 : decode cX4_noteSecond 0 = .ok (.iload_n 1, 1) := by decide +kernel
theorem dX4_noteSecond_1 : decode cX4_noteSecond 1 = .ok (.ifCond .lt 19, 3) := by decide +kernel
theorem dX4_noteSecond_4 : decode cX4_noteSecond 4 = .ok (.iload_n 1, 1) := by decide +kernel
theorem dX4_noteSecond_5 : decode cX4_noteSecond 5 = .ok (.bipush 16, 2) := by decide +kernel
theorem dX4_noteSecond_7 : decode cX4_noteSecond 7 = .ok (.if_icmp .ge 13, 3) := by decide +kernel
theorem dX4_noteSecond_10 : decode cX4_noteSecond 10 = .ok (.aload_n 0, 1) := by decide +kernel
theorem dX4_noteSecond_11 : decode cX4_noteSecond 11 = .ok (.getfield 29, 3) := by decide +kernel
theorem dX4_noteSecond_14 : decode cX4_noteSecond 14 = .ok (.iload_n 1, 1) := by decide +kernel
theorem dX4_noteSecond_15 : decode cX4_noteSecond 15 = .ok (.aload_n 0, 1) := by decide +kernel
theorem dX4_noteSecond_16 : decode cX4_noteSecond 16 = .ok (.getfield 35, 3) := by decide +kernel
theorem dX4_noteSecond_19 : decode cX4_noteSecond 19 = .ok (.iastore, 1) := by decide +kernel
theorem dX4_noteSecond_20 : decode cX4_noteSecond 20 = .ok (.iconst 1, 1) := by decide +kernel
theorem dX4_noteSecond_21 : decode cX4_noteSecond 21 = .ok (.ireturn, 1) := by decide +kernel
theorem dX4_sign_0 : decode cX4_sign 0 = .ok (.aload_n 0, 1) := by decide +kernel
theorem dX4_sign_1 : decode cX4_sign 1 = .ok (.getfield 19, 3) := by decide +kernel
theorem dX4_sign_4 : decode cX4_sign 4 = .ok (.ifCond .lt 26, 3) := by decide +kernel
theorem dX4_sign_7 : decode cX4_sign 7 = .ok (.aload_n 0, 1) := by decide +kernel
theorem dX4_sign_8 : decode cX4_sign 8 = .ok (.getfield 19, 3) := by decide +kernel
theorem dX4_sign_11 : decode cX4_sign 11 = .ok (.aload_n 0, 1) := by decide +kernel
theorem dX4_sign_12 : decode cX4_sign 12 = .ok (.getfield 15, 3) := by decide +kernel
theorem dX4_sign_15 : decode cX4_sign 15 = .ok (.if_icmp .ge 15, 3) := by decide +kernel
theorem dX4_sign_18 : decode cX4_sign 18 = .ok (.aload_n 0, 1) := by decide +kernel
theorem dX4_sign_19 : decode cX4_sign 19 = .ok (.getfield 9, 3) := by decide +kernel
theorem dX4_sign_22 : decode cX4_sign 22 = .ok (.aload_n 0, 1) := by decide +kernel
theorem dX4_sign_23 : decode cX4_sign 23 = .ok (.getfield 19, 3) := by decide +kernel
theorem dX4_sign_26 : decode cX4_sign 26 = .ok (.caload, 1) := by decide +kernel
theorem dX4_sign_27 : decode cX4_sign 27 = .ok (.goto 4, 3) := by decide +kernel
theorem dX4_sign_30 : decode cX4_sign 30 = .ok (.iconst 0, 1) := by decide +kernel
theorem dX4_sign_31 : decode cX4_sign 31 = .ok (.ireturn, 1) := by decide +kernel
theorem dX4_takeSign_0 : decode cX4_takeSign 0 = .ok (.aload_n 0, 1) := by decide +kernel
theorem dX4_takeSign_1 : decode cX4_takeSign 1 = .ok (.invokevirtual 46, 3) := by decide +kernel
theorem dX4_takeSign_4 : decode cX4_takeSign 4 = .ok (.iload_n 1, 1) := by decide +kernel
theorem dX4_takeSign_5 : decode cX4_takeSign 5 = .ok (.if_icmp .eq 5, 3) := by decide +kernel
theorem dX4_takeSign_8 : decode cX4_takeSign 8 = .ok (.iconst 0, 1) := by decide +kernel
theorem dX4_takeSign_9 : decode cX4_takeSign 9 = .ok (.ireturn, 1) := by decide +kernel
theorem dX4_takeSign_10 : decode cX4_takeSign 10 = .ok (.aload_n 0, 1) := by decide +kernel
theorem dX4_takeSign_11 : decode cX4_takeSign 11 = .ok (.dup, 1) := by decide +kernel
theorem dX4_takeSign_12 : decode cX4_takeSign 12 = .ok (.getfield 19, 3) := by decide +kernel
theorem dX4_takeSign_15 : decode cX4_takeSign 15 = .ok (.iconst 1, 1) := by decide +kernel
theorem dX4_takeSign_16 : decode cX4_takeSign 16 = .ok (.iadd, 1) := by decide +kernel
theorem dX4_takeSign_17 : decode cX4_takeSign 17 = .ok (.putfield 19, 3) := by decide +kernel
theorem dX4_takeSign_20 : decode cX4_takeSign 20 = .ok (.iconst 1, 1) := by decide +kernel
theorem dX4_takeSign_21 : decode cX4_takeSign 21 = .ok (.ireturn, 1) := by decide +kernel
theorem dX4_takeWord_0 : decode cX4_takeWord 0 = .ok (.iconst 0, 1) := by decide +kernel
theorem dX4_takeWord_1 : decode cX4_takeWord 1 = .ok (.istore_n 2, 1) := by decide +kernel
theorem dX4_takeWord_2 : decode cX4_takeWord 2 = .ok (.iload_n 2, 1) := by decide +kernel
theorem dX4_takeWord_3 : decode cX4_takeWord 3 = .ok (.aload_n 1, 1) := by decide +kernel
theorem dX4_takeWord_4 : decode cX4_takeWord 4 = .ok (.invokevirtual 85, 3) := by decide +kernel
theorem dX4_takeWord_7 : decode cX4_takeWord 7 = .ok (.if_icmp .ge 23, 3) := by decide +kernel
theorem dX4_takeWord_10 : decode cX4_takeWord 10 = .ok (.aload_n 0, 1) := by decide +kernel
theorem dX4_takeWord_11 : decode cX4_takeWord 11 = .ok (.aload_n 1, 1) := by decide +kernel
theorem dX4_takeWord_12 : decode cX4_takeWord 12 = .ok (.iload_n 2, 1) := by decide +kernel
theorem dX4_takeWord_13 : decode cX4_takeWord 13 = .ok (.invokevirtual 90, 3) := by decide +kernel
theorem dX4_takeWord_16 : decode cX4_takeWord 16 = .ok (.invokevirtual 42, 3) := by decide +kernel
theorem dX4_takeWord_19 : decode cX4_takeWord 19 = .ok (.ifCond .ne 5, 3) := by decide +kernel
theorem dX4_takeWord_22 : decode cX4_takeWord 22 = .ok (.iconst 0, 1) := by decide +kernel
theorem dX4_takeWord_23 : decode cX4_takeWord 23 = .ok (.ireturn, 1) := by decide +kernel
theorem dX4_takeWord_24 : decode cX4_takeWord 24 = .ok (.iinc 2 1, 3) := by decide +kernel
theorem dX4_takeWord_27 : decode cX4_takeWord 27 = .ok (.goto (-25), 3) := by decide +kernel
theorem dX4_takeWord_30 : decode cX4_takeWord 30 = .ok (.iconst 1, 1) := by decide +kernel
theorem dX4_takeWord_31 : decode cX4_takeWord 31 = .ok (.ireturn, 1) := by decide +kernel
theorem dX4_takeDigit_0 : decode cX4_takeDigit 0 = .ok (.aload_n 0, 1) := by decide +kernel
theorem dX4_takeDigit_1 : decode cX4_takeDigit 1 = .ok (.invokevirtual 46, 3) := by decide +kernel
theorem dX4_takeDigit_4 : decode cX4_takeDigit 4 = .ok (.istore_n 3, 1) := by decide +kernel
theorem dX4_takeDigit_5 : decode cX4_takeDigit 5 = .ok (.iload_n 3, 1) := by decide +kernel
theorem dX4_takeDigit_6 : decode cX4_takeDigit 6 = .ok (.iload_n 1, 1) := by decide +kernel
theorem dX4_takeDigit_7 : decode cX4_takeDigit 7 = .ok (.if_icmp .lt 8, 3) := by decide +kernel
theorem dX4_takeDigit_10 : decode cX4_takeDigit 10 = .ok (.iload_n 3, 1) := by decide +kernel
theorem dX4_takeDigit_11 : decode cX4_takeDigit 11 = .ok (.iload_n 2, 1) := by decide +kernel
theorem dX4_takeDigit_12 : decode cX4_takeDigit 12 = .ok (.if_icmp .le 5, 3) := by decide +kernel
theorem dX4_takeDigit_15 : decode cX4_takeDigit 15 = .ok (.iconst 0, 1) := by decide +kernel
theorem dX4_takeDigit_16 : decode cX4_takeDigit 16 = .ok (.ireturn, 1) := by decide +kernel
theorem dX4_takeDigit_17 : decode cX4_takeDigit 17 = .ok (.aload_n 0, 1) := by decide +kernel
theorem dX4_takeDigit_18 : decode cX4_takeDigit 18 = .ok (.iload_n 3, 1) := by decide +kernel
theorem dX4_takeDigit_19 : decode cX4_takeDigit 19 = .ok (.bipush 48, 2) := by decide +kernel
theorem dX4_takeDigit_21 : decode cX4_takeDigit 21 = .ok (.isub, 1) := by decide +kernel
theorem dX4_takeDigit_22 : decode cX4_takeDigit 22 = .ok (.putfield 35, 3) := by decide +kernel
theorem dX4_takeDigit_25 : decode cX4_takeDigit 25 = .ok (.aload_n 0, 1) := by decide +kernel
theorem dX4_takeDigit_26 : decode cX4_takeDigit 26 = .ok (.dup, 1) := by decide +kernel
theorem dX4_takeDigit_27 : decode cX4_takeDigit 27 = .ok (.getfield 19, 3) := by decide +kernel
theorem dX4_takeDigit_30 : decode cX4_takeDigit 30 = .ok (.iconst 1, 1) := by decide +kernel
theorem dX4_takeDigit_31 : decode cX4_takeDigit 31 = .ok (.iadd, 1) := by decide +kernel
theorem dX4_takeDigit_32 : decode cX4_takeDigit 32 = .ok (.putfield 19, 3) := by decide +kernel
theorem dX4_takeDigit_35 : decode cX4_takeDigit 35 = .ok (.iconst 1, 1) := by decide +kernel
theorem dX4_takeDigit_36 : decode cX4_takeDigit 36 = .ok (.ireturn, 1) := by decide +kernel
theorem dX4_takeSpan_0 : decode cX4_takeSpan 0 = .ok (.aload_n 0, 1) := by decide +kernel
theorem dX4_takeSpan_1 : decode cX4_takeSpan 1 = .ok (.bipush 48, 2) := by decide +kernel
theorem dX4_takeSpan_3 : decode cX4_takeSpan 3 = .ok (.bipush 55, 2) := by decide +kernel
theorem dX4_takeSpan_5 : decode cX4_takeSpan 5 = .ok (.invokevirtual 76, 3) := by decide +kernel
theorem dX4_takeSpan_8 : decode cX4_takeSpan 8 = .ok (.ireturn, 1) := by decide +kernel
theorem dX4_takeNumber_0 : decode cX4_takeNumber 0 = .ok (.iconst 0, 1) := by decide +kernel
theorem dX4_takeNumber_1 : decode cX4_takeNumber 1 = .ok (.istore_n 1, 1) := by decide +kernel
theorem dX4_takeNumber_2 : decode cX4_takeNumber 2 = .ok (.iconst 0, 1) := by decide +kernel
theorem dX4_takeNumber_3 : decode cX4_takeNumber 3 = .ok (.istore_n 2, 1) := by decide +kernel
theorem dX4_takeNumber_4 : decode cX4_takeNumber 4 = .ok (.iload_n 1, 1) := by decide +kernel
theorem dX4_takeNumber_5 : decode cX4_takeNumber 5 = .ok (.iconst 3, 1) := by decide +kernel
theorem dX4_takeNumber_6 : decode cX4_takeNumber 6 = .ok (.if_icmp .ge 30, 3) := by decide +kernel
theorem dX4_takeNumber_9 : decode cX4_takeNumber 9 = .ok (.aload_n 0, 1) := by decide +kernel
theorem dX4_takeNumber_10 : decode cX4_takeNumber 10 = .ok (.bipush 48, 2) := by decide +kernel
theorem dX4_takeNumber_12 : decode cX4_takeNumber 12 = .ok (.bipush 57, 2) := by decide +kernel
theorem dX4_takeNumber_14 : decode cX4_takeNumber 14 = .ok (.invokevirtual 76, 3) := by decide +kernel
theorem dX4_takeNumber_17 : decode cX4_takeNumber 17 = .ok (.ifCond .eq 19, 3) := by decide +kernel
theorem dX4_takeNumber_20 : decode cX4_takeNumber 20 = .ok (.bipush 10, 2) := by decide +kernel
theorem dX4_takeNumber_22 : decode cX4_takeNumber 22 = .ok (.iload_n 2, 1) := by decide +kernel
theorem dX4_takeNumber_23 : decode cX4_takeNumber 23 = .ok (.imul, 1) := by decide +kernel
theorem dX4_takeNumber_24 : decode cX4_takeNumber 24 = .ok (.aload_n 0, 1) := by decide +kernel
theorem dX4_takeNumber_25 : decode cX4_takeNumber 25 = .ok (.getfield 35, 3) := by decide +kernel
theorem dX4_takeNumber_28 : decode cX4_takeNumber 28 = .ok (.iadd, 1) := by decide +kernel
theorem dX4_takeNumber_29 : decode cX4_takeNumber 29 = .ok (.istore_n 2, 1) := by decide +kernel
theorem dX4_takeNumber_30 : decode cX4_takeNumber 30 = .ok (.iinc 1 1, 3) := by decide +kernel
theorem dX4_takeNumber_33 : decode cX4_takeNumber 33 = .ok (.goto (-29), 3) := by decide +kernel
theorem dX4_takeNumber_36 : decode cX4_takeNumber 36 = .ok (.aload_n 0, 1) := by decide +kernel
theorem dX4_takeNumber_37 : decode cX4_takeNumber 37 = .ok (.iload_n 2, 1) := by decide +kernel
theorem dX4_takeNumber_38 : decode cX4_takeNumber 38 = .ok (.putfield 35, 3) := by decide +kernel
theorem dX4_takeNumber_41 : decode cX4_takeNumber 41 = .ok (.iload_n 1, 1) := by decide +kernel
theorem dX4_takeNumber_42 : decode cX4_takeNumber 42 = .ok (.ifCond .le 7, 3) := by decide +kernel
theorem dX4_takeNumber_45 : decode cX4_takeNumber 45 = .ok (.iconst 1, 1) := by decide +kernel
theorem dX4_takeNumber_46 : decode cX4_takeNumber 46 = .ok (.goto 4, 3) := by decide +kernel
theorem dX4_takeNumber_49 : decode cX4_takeNumber 49 = .ok (.iconst 0, 1) := by decide +kernel
theorem dX4_takeNumber_50 : decode cX4_takeNumber 50 = .ok (.ireturn, 1) := by decide +kernel
theorem dX4_takeWay_0 : decode cX4_takeWay 0 = .ok (.aload_n 0, 1) := by decide +kernel
theorem dX4_takeWay_1 : decode cX4_takeWay 1 = .ok (.invokevirtual 46, 3) := by decide +kernel
theorem dX4_takeWay_4 : decode cX4_takeWay 4 = .ok (.lookupswitch 72 #[(111, 36), (114, 60), (119, 48)], 36) := by decide +kernel
theorem dX4_takeWay_40 : decode cX4_takeWay 40 = .ok (.aload_n 0, 1) := by decide +kernel
theorem dX4_takeWay_41 : decode cX4_takeWay 41 = .ok (.iconst 0, 1) := by decide +kernel
theorem dX4_takeWay_42 : decode cX4_takeWay 42 = .ok (.putfield 35, 3) := by decide +kernel
theorem dX4_takeWay_45 : decode cX4_takeWay 45 = .ok (.aload_n 0, 1) := by decide +kernel
theorem dX4_takeWay_46 : decode cX4_takeWay 46 = .ok (.ldc 94, 2) := by decide +kernel
theorem dX4_takeWay_48 : decode cX4_takeWay 48 = .ok (.invokevirtual 52, 3) := by decide +kernel
theorem dX4_takeWay_51 : decode cX4_takeWay 51 = .ok (.ireturn, 1) := by decide +kernel
theorem dX4_takeWay_52 : decode cX4_takeWay 52 = .ok (.aload_n 0, 1) := by decide +kernel
theorem dX4_takeWay_53 : decode cX4_takeWay 53 = .ok (.iconst 1, 1) := by decide +kernel
theorem dX4_takeWay_54 : decode cX4_takeWay 54 = .ok (.putfield 35, 3) := by decide +kernel
theorem dX4_takeWay_57 : decode cX4_takeWay 57 = .ok (.aload_n 0, 1) := by decide +kernel
theorem dX4_takeWay_58 : decode cX4_takeWay 58 = .ok (.ldc 96, 2) := by decide +kernel
theorem dX4_takeWay_60 : decode cX4_takeWay 60 = .ok (.invokevirtual 52, 3) := by decide +kernel
theorem dX4_takeWay_63 : decode cX4_takeWay 63 = .ok (.ireturn, 1) := by decide +kernel
theorem dX4_takeWay_64 : decode cX4_takeWay 64 = .ok (.aload_n 0, 1) := by decide +kernel
theorem dX4_takeWay_65 : decode cX4_takeWay 65 = .ok (.iconst 2, 1) := by decide +kernel
theorem dX4_takeWay_66 : decode cX4_takeWay 66 = .ok (.putfield 35, 3) := by decide +kernel
theorem dX4_takeWay_69 : decode cX4_takeWay 69 = .ok (.aload_n 0, 1) := by decide +kernel
theorem dX4_takeWay_70 : decode cX4_takeWay 70 = .ok (.ldc 98, 2) := by decide +kernel
theorem dX4_takeWay_72 : decode cX4_takeWay 72 = .ok (.invokevirtual 52, 3) := by decide +kernel
theorem dX4_takeWay_75 : decode cX4_takeWay 75 = .ok (.ireturn, 1) := by decide +kernel
theorem dX4_takeWay_76 : decode cX4_takeWay 76 = .ok (.iconst 0, 1) := by decide +kernel
theorem dX4_takeWay_77 : decode cX4_takeWay 77 = .ok (.ireturn, 1) := by decide +kernel
theorem dX5_init_0 : decode cX5_init 0 = .ok (.aload_n 0, 1) := by decide +kernel
theorem dX5_init_1 : decode cX5_init 1 = .ok (.invokespecial 3, 3) := by decide +kernel
theorem dX5_init_4 : decode cX5_init 4 = .ok (.aload_n 0, 1) := by decide +kernel
theorem dX5_init_5 : decode cX5_init 5 = .ok (.bipush 20, 2) := by decide +kernel
theorem dX5_init_7 : decode cX5_init 7 = .ok (.newarray .int, 2) := by decide +kernel
theorem dX5_init_9 : decode cX5_init 9 = .ok (.putfield 9, 3) := by decide +kernel
theorem dX5_init_12 : decode cX5_init 12 = .ok (.aload_n 0, 1) := by decide +kernel
theorem dX5_init_13 : decode cX5_init 13 = .ok (.bipush 20, 2) := by decide +kernel
theorem dX5_init_15 : decode cX5_init 15 = .ok (.newarray .int, 2) := by decide +kernel
theorem dX5_init_17 : decode cX5_init 17 = .ok (.putfield 15, 3) := by decide +kernel
theorem dX5_init_20 : decode cX5_init 20 = .ok (.aload_n 0, 1) := by decide +kernel
theorem dX5_init_21 : decode cX5_init 21 = .ok (.iconst 0, 1) := by decide +kernel
theorem dX5_init_22 : decode cX5_init 22 = .ok (.putfield 18, 3) := by decide +kernel
theorem dX5_init_25 : decode cX5_init 25 = .ok (.return_, 1) := by decide +kernel
theorem dX5_copyFrom_0 : decode cX5_copyFrom 0 = .ok (.aload_n 1, 1) := by decide +kernel
theorem dX5_copyFrom_1 : decode cX5_copyFrom 1 = .ok (.getfield 9, 3) := by decide +kernel
theorem dX5_copyFrom_4 : decode cX5_copyFrom 4 = .ok (.iconst 0, 1) := by decide +kernel
theorem dX5_copyFrom_5 : decode cX5_copyFrom 5 = .ok (.aload_n 0, 1) := by decide +kernel
theorem dX5_copyFrom_6 : decode cX5_copyFrom 6 = .ok (.getfield 9, 3) := by decide +kernel
theorem dX5_copyFrom_9 : decode cX5_copyFrom 9 = .ok (.iconst 0, 1) := by decide +kernel
theorem dX5_copyFrom_10 : decode cX5_copyFrom 10 = .ok (.bipush 20, 2) := by decide +kernel
theorem dX5_copyFrom_12 : decode cX5_copyFrom 12 = .ok (.invokestatic 22, 3) := by decide +kernel
theorem dX5_copyFrom_15 : decode cX5_copyFrom 15 = .ok (.aload_n 1, 1) := by decide +kernel
theorem dX5_copyFrom_16 : decode cX5_copyFrom 16 = .ok (.getfield 15, 3) := by decide +kernel
theorem dX5_copyFrom_19 : decode cX5_copyFrom 19 = .ok (.iconst 0, 1) := by decide +kernel
theorem dX5_copyFrom_20 : decode cX5_copyFrom 20 = .ok (.aload_n 0, 1) := by decide +kernel
theorem dX5_copyFrom_21 : decode cX5_copyFrom 21 = .ok (.getfield 15, 3) := by decide +kernel
theorem dX5_copyFrom_24 : decode cX5_copyFrom 24 = .ok (.iconst 0, 1) := by decide +kernel
theorem dX5_copyFrom_25 : decode cX5_copyFrom 25 = .ok (.bipush 20, 2) := by decide +kernel
theorem dX5_copyFrom_27 : decode cX5_copyFrom 27 = .ok (.invokestatic 22, 3) := by decide +kernel
theorem dX5_copyFrom_30 : decode cX5_copyFrom 30 = .ok (.aload_n 0, 1) := by decide +kernel
theorem dX5_copyFrom_31 : decode cX5_copyFrom 31 = .ok (.aload_n 1, 1) := by decide +kernel
theorem dX5_copyFrom_32 : decode cX5_copyFrom 32 = .ok (.getfield 18, 3) := by decide +kernel
theorem dX5_copyFrom_35 : decode cX5_copyFrom 35 = .ok (.putfield 18, 3) := by decide +kernel
theorem dX5_copyFrom_38 : decode cX5_copyFrom 38 = .ok (.return_, 1) := by decide +kernel
theorem dX5_append_0 : decode cX5_append 0 = .ok (.aload_n 0, 1) := by decide +kernel
theorem dX5_append_1 : decode cX5_append 1 = .ok (.getfield 18, 3) := by decide +kernel
theorem dX5_append_4 : decode cX5_append 4 = .ok (.bipush 20, 2) := by decide +kernel
theorem dX5_append_6 : decode cX5_append 6 = .ok (.if_icmp .lt 5, 3) := by decide +kernel
theorem dX5_append_9 : decode cX5_append 9 = .ok (.iconst 0, 1) := by decide +kernel
theorem dX5_append_10 : decode cX5_append 10 = .ok (.ireturn, 1) := by decide +kernel
theorem dX5_append_11 : decode cX5_append 11 = .ok (.aload_n 0, 1) := by decide +kernel
theorem dX5_append_12 : decode cX5_append 12 = .ok (.getfield 9, 3) := by decide +kernel
theorem dX5_append_15 : decode cX5_append 15 = .ok (.aload_n 0, 1) := by decide +kernel
theorem dX5_append_16 : decode cX5_append 16 = .ok (.getfield 18, 3) := by decide +kernel
theorem dX5_append_19 : decode cX5_append 19 = .ok (.iload_n 1, 1) := by decide +kernel
theorem dX5_append_20 : decode cX5_append 20 = .ok (.iastore, 1) := by decide +kernel
theorem dX5_append_21 : decode cX5_append 21 = .ok (.aload_n 0, 1) := by decide +kernel
theorem dX5_append_22 : decode cX5_append 22 = .ok (.getfield 15, 3) := by decide +kernel
theorem dX5_append_25 : decode cX5_append 25 = .ok (.aload_n 0, 1) := by decide +kernel
theorem dX5_append_26 : decode cX5_append 26 = .ok (.getfield 18, 3) := by decide +kernel
theorem dX5_append_29 : decode cX5_append 29 = .ok (.iload_n 2, 1) := by decide +kernel
theorem dX5_append_30 : decode cX5_append 30 = .ok (.iastore, 1) := by decide +kernel
theorem dX5_append_31 : decode cX5_append 31 = .ok (.aload_n 0, 1) := by decide +kernel
theorem dX5_append_32 : decode cX5_append 32 = .ok (.dup, 1) := by decide +kernel
theorem dX5_append_33 : decode cX5_append 33 = .ok (.getfield 18, 3) := by decide +kernel
theorem dX5_append_36 : decode cX5_append 36 = .ok (.iconst 1, 1) := by decide +kernel
theorem dX5_append_37 : decode cX5_append 37 = .ok (.iadd, 1) := by decide +kernel
theorem dX5_append_38 : decode cX5_append 38 = .ok (.putfield 18, 3) := by decide +kernel
theorem dX5_append_41 : decode cX5_append 41 = .ok (.iconst 1, 1) := by decide +kernel
theorem dX5_append_42 : decode cX5_append 42 = .ok (.ireturn, 1) := by decide +kernel
theorem dX5_sizeOf_0 : decode cX5_sizeOf 0 = .ok (.iconst 0, 1) := by decide +kernel
theorem dX5_sizeOf_1 : decode cX5_sizeOf 1 = .ok (.istore_n 2, 1) := by decide +kernel
theorem dX5_sizeOf_2 : decode cX5_sizeOf 2 = .ok (.iconst 0, 1) := by decide +kernel
theorem dX5_sizeOf_3 : decode cX5_sizeOf 3 = .ok (.istore_n 3, 1) := by decide +kernel
theorem dX5_sizeOf_4 : decode cX5_sizeOf 4 = .ok (.iload_n 3, 1) := by decide +kernel
theorem dX5_sizeOf_5 : decode cX5_sizeOf 5 = .ok (.aload_n 0, 1) := by decide +kernel
theorem dX5_sizeOf_6 : decode cX5_sizeOf 6 = .ok (.getfield 18, 3) := by decide +kernel
theorem dX5_sizeOf_9 : decode cX5_sizeOf 9 = .ok (.if_icmp .ge 22, 3) := by decide +kernel
theorem dX5_sizeOf_12 : decode cX5_sizeOf 12 = .ok (.aload_n 0, 1) := by decide +kernel
theorem dX5_sizeOf_13 : decode cX5_sizeOf 13 = .ok (.getfield 9, 3) := by decide +kernel
theorem dX5_sizeOf_16 : decode cX5_sizeOf 16 = .ok (.iload_n 3, 1) := by decide +kernel
theorem dX5_sizeOf_17 : decode cX5_sizeOf 17 = .ok (.iaload, 1) := by decide +kernel
theorem dX5_sizeOf_18 : decode cX5_sizeOf 18 = .ok (.iload_n 1, 1) := by decide +kernel
theorem dX5_sizeOf_19 : decode cX5_sizeOf 19 = .ok (.if_icmp .ne 6, 3) := by decide +kernel
theorem dX5_sizeOf_22 : decode cX5_sizeOf 22 = .ok (.iinc 2 1, 3) := by decide +kernel
theorem dX5_sizeOf_25 : decode cX5_sizeOf 25 = .ok (.iinc 3 1, 3) := by decide +kernel
theorem dX5_sizeOf_28 : decode cX5_sizeOf 28 = .ok (.goto (-24), 3) := by decide +kernel
theorem dX5_sizeOf_31 : decode cX5_sizeOf 31 = .ok (.iload_n 2, 1) := by decide +kernel
theorem dX5_sizeOf_32 : decode cX5_sizeOf 32 = .ok (.ireturn, 1) := by decide +kernel
theorem dX5_sumOf_0 : decode cX5_sumOf 0 = .ok (.iconst 0, 1) := by decide +kernel
theorem dX5_sumOf_1 : decode cX5_sumOf 1 = .ok (.istore_n 3, 1) := by decide +kernel
theorem dX5_sumOf_2 : decode cX5_sumOf 2 = .ok (.iconst 0, 1) := by decide +kernel
theorem dX5_sumOf_3 : decode cX5_sumOf 3 = .ok (.istore 4, 2) := by decide +kernel
theorem dX5_sumOf_5 : decode cX5_sumOf 5 = .ok (.iload 4, 2) := by decide +kernel
theorem dX5_sumOf_7 : decode cX5_sumOf 7 = .ok (.aload_n 0, 1) := by decide +kernel
theorem dX5_sumOf_8 : decode cX5_sumOf 8 = .ok (.getfield 18, 3) := by decide +kernel
theorem dX5_sumOf_11 : decode cX5_sumOf 11 = .ok (.if_icmp .ge 34, 3) := by decide +kernel
theorem dX5_sumOf_14 : decode cX5_sumOf 14 = .ok (.aload_n 0, 1) := by decide +kernel
theorem dX5_sumOf_15 : decode cX5_sumOf 15 = .ok (.getfield 9, 3) := by decide +kernel
theorem dX5_sumOf_18 : decode cX5_sumOf 18 = .ok (.iload 4, 2) := by decide +kernel
theorem dX5_sumOf_20 : decode cX5_sumOf 20 = .ok (.iaload, 1) := by decide +kernel
theorem dX5_sumOf_21 : decode cX5_sumOf 21 = .ok (.iload_n 1, 1) := by decide +kernel
theorem dX5_sumOf_22 : decode cX5_sumOf 22 = .ok (.if_icmp .ne 17, 3) := by decide +kernel
theorem dX5_sumOf_25 : decode cX5_sumOf 25 = .ok (.iload_n 3, 1) := by decide +kernel
theorem dX5_sumOf_26 : decode cX5_sumOf 26 = .ok (.aload_n 0, 1) := by decide +kernel
theorem dX5_sumOf_27 : decode cX5_sumOf 27 = .ok (.getfield 15, 3) := by decide +kernel
theorem dX5_sumOf_30 : decode cX5_sumOf 30 = .ok (.iload 4, 2) := by decide +kernel
theorem dX5_sumOf_32 : decode cX5_sumOf 32 = .ok (.iaload, 1) := by decide +kernel
theorem dX5_sumOf_33 : decode cX5_sumOf 33 = .ok (.iload_n 2, 1) := by decide +kernel
theorem dX5_sumOf_34 : decode cX5_sumOf 34 = .ok (.invokestatic 28, 3) := by decide +kernel
theorem dX5_sumOf_37 : decode cX5_sumOf 37 = .ok (.iadd, 1) := by decide +kernel
theorem dX5_sumOf_38 : decode cX5_sumOf 38 = .ok (.istore_n 3, 1) := by decide +kernel
theorem dX5_sumOf_39 : decode cX5_sumOf 39 = .ok (.iinc 4 1, 3) := by decide +kernel
theorem dX5_sumOf_42 : decode cX5_sumOf 42 = .ok (.goto (-37), 3) := by decide +kernel
theorem dX5_sumOf_45 : decode cX5_sumOf 45 = .ok (.iload_n 3, 1) := by decide +kernel
theorem dX5_sumOf_46 : decode cX5_sumOf 46 = .ok (.ireturn, 1) := by decide +kernel
theorem dX5_triesAt_0 : decode cX5_triesAt 0 = .ok (.iconst 0, 1) := by decide +kernel
theorem dX5_triesAt_1 : decode cX5_triesAt 1 = .ok (.istore_n 3, 1) := by decide +kernel
theorem dX5_triesAt_2 : decode cX5_triesAt 2 = .ok (.iconst 0, 1) := by decide +kernel
theorem dX5_triesAt_3 : decode cX5_triesAt 3 = .ok (.istore 4, 2) := by decide +kernel
theorem dX5_triesAt_5 : decode cX5_triesAt 5 = .ok (.iload 4, 2) := by decide +kernel
theorem dX5_triesAt_7 : decode cX5_triesAt 7 = .ok (.aload_n 0, 1) := by decide +kernel
theorem dX5_triesAt_8 : decode cX5_triesAt 8 = .ok (.getfield 18, 3) := by decide +kernel
theorem dX5_triesAt_11 : decode cX5_triesAt 11 = .ok (.if_icmp .ge 36, 3) := by decide +kernel
theorem dX5_triesAt_14 : decode cX5_triesAt 14 = .ok (.aload_n 0, 1) := by decide +kernel
theorem dX5_triesAt_15 : decode cX5_triesAt 15 = .ok (.getfield 9, 3) := by decide +kernel
theorem dX5_triesAt_18 : decode cX5_triesAt 18 = .ok (.iload 4, 2) := by decide +kernel
theorem dX5_triesAt_20 : decode cX5_triesAt 20 = .ok (.iaload, 1) := by decide +kernel
theorem dX5_triesAt_21 : decode cX5_triesAt 21 = .ok (.iload_n 1, 1) := by decide +kernel
theorem dX5_triesAt_22 : decode cX5_triesAt 22 = .ok (.if_icmp .ne 19, 3) := by decide +kernel
theorem dX5_triesAt_25 : decode cX5_triesAt 25 = .ok (.iload_n 3, 1) := by decide +kernel
theorem dX5_triesAt_26 : decode cX5_triesAt 26 = .ok (.iload_n 2, 1) := by decide +kernel
theorem dX5_triesAt_27 : decode cX5_triesAt 27 = .ok (.if_icmp .ne 11, 3) := by decide +kernel
theorem dX5_triesAt_30 : decode cX5_triesAt 30 = .ok (.aload_n 0, 1) := by decide +kernel
theorem dX5_triesAt_31 : decode cX5_triesAt 31 = .ok (.getfield 15, 3) := by decide +kernel
theorem dX5_triesAt_34 : decode cX5_triesAt 34 = .ok (.iload 4, 2) := by decide +kernel
theorem dX5_triesAt_36 : decode cX5_triesAt 36 = .ok (.iaload, 1) := by decide +kernel
theorem dX5_triesAt_37 : decode cX5_triesAt 37 = .ok (.ireturn, 1) := by decide +kernel
theorem dX5_triesAt_38 : decode cX5_triesAt 38 = .ok (.iinc 3 1, 3) := by decide +kernel
theorem dX5_triesAt_41 : decode cX5_triesAt 41 = .ok (.iinc 4 1, 3) := by decide +kernel
theorem dX5_triesAt_44 : decode cX5_triesAt 44 = .ok (.goto (-39), 3) := by decide +kernel
theorem dX5_triesAt_47 : decode cX5_triesAt 47 = .ok (.iconst (-1), 1) := by decide +kernel
theorem dX5_triesAt_48 : decode cX5_triesAt 48 = .ok (.ireturn, 1) := by decide +kernel
theorem dX5_hasWeak_0 : decode cX5_hasWeak 0 = .ok (.iconst 0, 1) := by decide +kernel
theorem dX5_hasWeak_1 : decode cX5_hasWeak 1 = .ok (.istore_n 3, 1) := by decide +kernel
theorem dX5_hasWeak_2 : decode cX5_hasWeak 2 = .ok (.iload_n 3, 1) := by decide +kernel
theorem dX5_hasWeak_3 : decode cX5_hasWeak 3 = .ok (.aload_n 0, 1) := by decide +kernel
theorem dX5_hasWeak_4 : decode cX5_hasWeak 4 = .ok (.getfield 18, 3) := by decide +kernel
theorem dX5_hasWeak_7 : decode cX5_hasWeak 7 = .ok (.if_icmp .ge 31, 3) := by decide +kernel
theorem dX5_hasWeak_10 : decode cX5_hasWeak 10 = .ok (.aload_n 0, 1) := by decide +kernel
theorem dX5_hasWeak_11 : decode cX5_hasWeak 11 = .ok (.getfield 9, 3) := by decide +kernel
theorem dX5_hasWeak_14 : decode cX5_hasWeak 14 = .ok (.iload_n 3, 1) := by decide +kernel
theorem dX5_hasWeak_15 : decode cX5_hasWeak 15 = .ok (.iaload, 1) := by decide +kernel
theorem dX5_hasWeak_16 : decode cX5_hasWeak 16 = .ok (.iload_n 1, 1) := by decide +kernel
theorem dX5_hasWeak_17 : decode cX5_hasWeak 17 = .ok (.if_icmp .ne 15, 3) := by decide +kernel
theorem dX5_hasWeak_20 : decode cX5_hasWeak 20 = .ok (.aload_n 0, 1) := by decide +kernel
theorem dX5_hasWeak_21 : decode cX5_hasWeak 21 = .ok (.getfield 15, 3) := by decide +kernel
theorem dX5_hasWeak_24 : decode cX5_hasWeak 24 = .ok (.iload_n 3, 1) := by decide +kernel
theorem dX5_hasWeak_25 : decode cX5_hasWeak 25 = .ok (.iaload, 1) := by decide +kernel
theorem dX5_hasWeak_26 : decode cX5_hasWeak 26 = .ok (.iload_n 2, 1) := by decide +kernel
theorem dX5_hasWeak_27 : decode cX5_hasWeak 27 = .ok (.if_icmp .lt 5, 3) := by decide +kernel
theorem dX5_hasWeak_30 : decode cX5_hasWeak 30 = .ok (.iconst 1, 1) := by decide +kernel
theorem dX5_hasWeak_31 : decode cX5_hasWeak 31 = .ok (.ireturn, 1) := by decide +kernel
theorem dX5_hasWeak_32 : decode cX5_hasWeak 32 = .ok (.iinc 3 1, 3) := by decide +kernel
theorem dX5_hasWeak_35 : decode cX5_hasWeak 35 = .ok (.goto (-33), 3) := by decide +kernel
theorem dX5_hasWeak_38 : decode cX5_hasWeak 38 = .ok (.iconst 0, 1) := by decide +kernel
theorem dX5_hasWeak_39 : decode cX5_hasWeak 39 = .ok (.ireturn, 1) := by decide +kernel
end
section
theorem dX6_init_0 : decode cX6_init 0 = .ok (.aload_n 0, 1) := by decide +kernel
theorem dX6_init_1 : decode cX6_init 1 = .ok (.invokespecial 1, 3) := by decide +kernel
theorem dX6_init_4 : decode cX6_init 4 = .ok (.aload_n 0, 1) := by decide +kernel
theorem dX6_init_5 : decode cX6_init 5 = .ok (.new 7, 3) := by decide +kernel
theorem dX6_init_8 : decode cX6_init 8 = .ok (.dup, 1) := by decide +kernel
theorem dX6_init_9 : decode cX6_init 9 = .ok (.invokespecial 9, 3) := by decide +kernel
theorem dX6_init_12 : decode cX6_init 12 = .ok (.putfield 10, 3) := by decide +kernel
theorem dX6_init_15 : decode cX6_init 15 = .ok (.aload_n 0, 1) := by decide +kernel
theorem dX6_init_16 : decode cX6_init 16 = .ok (.new 7, 3) := by decide +kernel
theorem dX6_init_19 : decode cX6_init 19 = .ok (.dup, 1) := by decide +kernel
theorem dX6_init_20 : decode cX6_init 20 = .ok (.invokespecial 9, 3) := by decide +kernel
theorem dX6_init_23 : decode cX6_init 23 = .ok (.putfield 16, 3) := by decide +kernel
theorem dX6_init_26 : decode cX6_init 26 = .ok (.aload_n 0, 1) := by decide +kernel
theorem dX6_init_27 : decode cX6_init 27 = .ok (.new 19, 3) := by decide +kernel
theorem dX6_init_30 : decode cX6_init 30 = .ok (.dup, 1) := by decide +kernel
theorem dX6_init_31 : decode cX6_init 31 = .ok (.invokespecial 21, 3) := by decide +kernel
theorem dX6_init_34 : decode cX6_init 34 = .ok (.putfield 22, 3) := by decide +kernel
theorem dX6_init_37 : decode cX6_init 37 = .ok (.aload_n 0, 1) := by decide +kernel
theorem dX6_init_38 : decode cX6_init 38 = .ok (.new 26, 3) := by decide +kernel
theorem dX6_init_41 : decode cX6_init 41 = .ok (.dup, 1) := by decide +kernel
theorem dX6_init_42 : decode cX6_init 42 = .ok (.invokespecial 28, 3) := by decide +kernel
theorem dX6_init_45 : decode cX6_init 45 = .ok (.putfield 29, 3) := by decide +kernel
theorem dX6_init_48 : decode cX6_init 48 = .ok (.aload_n 0, 1) := by decide +kernel
theorem dX6_init_49 : decode cX6_init 49 = .ok (.new 33, 3) := by decide +kernel
theorem dX6_init_52 : decode cX6_init 52 = .ok (.dup, 1) := by decide +kernel
theorem dX6_init_53 : decode cX6_init 53 = .ok (.invokespecial 35, 3) := by decide +kernel
theorem dX6_init_56 : decode cX6_init 56 = .ok (.putfield 36, 3) := by decide +kernel
theorem dX6_init_59 : decode cX6_init 59 = .ok (.return_, 1) := by decide +kernel
theorem dX6_set_0 : decode cX6_set 0 = .ok (.aload_n 0, 1) := by decide +kernel
theorem dX6_set_1 : decode cX6_set 1 = .ok (.getfield 22, 3) := by decide +kernel
theorem dX6_set_4 : decode cX6_set 4 = .ok (.aload_n 0, 1) := by decide +kernel
theorem dX6_set_5 : decode cX6_set 5 = .ok (.getfield 10, 3) := by decide +kernel
theorem dX6_set_8 : decode cX6_set 8 = .ok (.invokevirtual 40, 3) := by decide +kernel
theorem dX6_set_11 : decode cX6_set 11 = .ok (.aload_n 0, 1) := by decide +kernel
theorem dX6_set_12 : decode cX6_set 12 = .ok (.getfield 22, 3) := by decide +kernel
theorem dX6_set_15 : decode cX6_set 15 = .ok (.aload_n 0, 1) := by decide +kernel
theorem dX6_set_16 : decode cX6_set 16 = .ok (.getfield 10, 3) := by decide +kernel
theorem dX6_set_19 : decode cX6_set 19 = .ok (.iload_n 1, 1) := by decide +kernel
theorem dX6_set_20 : decode cX6_set 20 = .ok (.iload_n 2, 1) := by decide +kernel
theorem dX6_set_21 : decode cX6_set 21 = .ok (.invokevirtual 44, 3) := by decide +kernel
theorem dX6_set_24 : decode cX6_set 24 = .ok (.invokevirtual 48, 3) := by decide +kernel
theorem dX6_set_27 : decode cX6_set 27 = .ok (.ireturn, 1) := by decide +kernel
theorem dX6_setWay_0 : decode cX6_setWay 0 = .ok (.aload_n 0, 1) := by decide +kernel
theorem dX6_setWay_1 : decode cX6_setWay 1 = .ok (.getfield 22, 3) := by decide +kernel
theorem dX6_setWay_4 : decode cX6_setWay 4 = .ok (.aload_n 0, 1) := by decide +kernel
theorem dX6_setWay_5 : decode cX6_setWay 5 = .ok (.getfield 10, 3) := by decide +kernel
theorem dX6_setWay_8 : decode cX6_setWay 8 = .ok (.invokevirtual 40, 3) := by decide +kernel
theorem dX6_setWay_11 : decode cX6_setWay 11 = .ok (.aload_n 0, 1) := by decide +kernel
theorem dX6_setWay_12 : decode cX6_setWay 12 = .ok (.getfield 22, 3) := by decide +kernel
theorem dX6_setWay_15 : decode cX6_setWay 15 = .ok (.aload_n 0, 1) := by decide +kernel
theorem dX6_setWay_16 : decode cX6_setWay 16 = .ok (.getfield 10, 3) := by decide +kernel
theorem dX6_setWay_19 : decode cX6_setWay 19 = .ok (.iload_n 1, 1) := by decide +kernel
theorem dX6_setWay_20 : decode cX6_setWay 20 = .ok (.invokevirtual 52, 3) := by decide +kernel
theorem dX6_setWay_23 : decode cX6_setWay 23 = .ok (.invokevirtual 48, 3) := by decide +kernel
theorem dX6_setWay_26 : decode cX6_setWay 26 = .ok (.ireturn, 1) := by decide +kernel
theorem dX6_addSpares_0 : decode cX6_addSpares 0 = .ok (.aload_n 0, 1) := by decide +kernel
theorem dX6_addSpares_1 : decode cX6_addSpares 1 = .ok (.getfield 22, 3) := by decide +kernel
theorem dX6_addSpares_4 : decode cX6_addSpares 4 = .ok (.aload_n 0, 1) := by decide +kernel
theorem dX6_addSpares_5 : decode cX6_addSpares 5 = .ok (.getfield 10, 3) := by decide +kernel
theorem dX6_addSpares_8 : decode cX6_addSpares 8 = .ok (.invokevirtual 40, 3) := by decide +kernel
theorem dX6_addSpares_11 : decode cX6_addSpares 11 = .ok (.aload_n 0, 1) := by decide +kernel
theorem dX6_addSpares_12 : decode cX6_addSpares 12 = .ok (.getfield 22, 3) := by decide +kernel
theorem dX6_addSpares_15 : decode cX6_addSpares 15 = .ok (.aload_n 0, 1) := by decide +kernel
theorem dX6_addSpares_16 : decode cX6_addSpares 16 = .ok (.getfield 10, 3) := by decide +kernel
theorem dX6_addSpares_19 : decode cX6_addSpares 19 = .ok (.iload_n 1, 1) := by decide +kernel
theorem dX6_addSpares_20 : decode cX6_addSpares 20 = .ok (.invokevirtual 55, 3) := by decide +kernel
theorem dX6_addSpares_23 : decode cX6_addSpares 23 = .ok (.invokevirtual 48, 3) := by decide +kernel
theorem dX6_addSpares_26 : decode cX6_addSpares 26 = .ok (.ireturn, 1) := by decide +kernel
theorem dX6_spot_0 : decode cX6_spot 0 = .ok (.aload_n 0, 1) := by decide +kernel
theorem dX6_spot_1 : decode cX6_spot 1 = .ok (.getfield 22, 3) := by decide +kernel
theorem dX6_spot_4 : decode cX6_spot 4 = .ok (.aload_n 0, 1) := by decide +kernel
theorem dX6_spot_5 : decode cX6_spot 5 = .ok (.getfield 10, 3) := by decide +kernel
theorem dX6_spot_8 : decode cX6_spot 8 = .ok (.invokevirtual 40, 3) := by decide +kernel
theorem dX6_spot_11 : decode cX6_spot 11 = .ok (.aload_n 0, 1) := by decide +kernel
theorem dX6_spot_12 : decode cX6_spot 12 = .ok (.getfield 22, 3) := by decide +kernel
theorem dX6_spot_15 : decode cX6_spot 15 = .ok (.aload_n 0, 1) := by decide +kernel
theorem dX6_spot_16 : decode cX6_spot 16 = .ok (.getfield 10, 3) := by decide +kernel
theorem dX6_spot_19 : decode cX6_spot 19 = .ok (.iload_n 1, 1) := by decide +kernel
theorem dX6_spot_20 : decode cX6_spot 20 = .ok (.iload_n 2, 1) := by decide +kernel
theorem dX6_spot_21 : decode cX6_spot 21 = .ok (.invokevirtual 58, 3) := by decide +kernel
theorem dX6_spot_24 : decode cX6_spot 24 = .ok (.invokevirtual 48, 3) := by decide +kernel
theorem dX6_spot_27 : decode cX6_spot 27 = .ok (.ireturn, 1) := by decide +kernel
theorem dX6_ask_0 : decode cX6_ask 0 = .ok (.aload_n 0, 1) := by decide +kernel
theorem dX6_ask_1 : decode cX6_ask 1 = .ok (.getfield 22, 3) := by decide +kernel
theorem dX6_ask_4 : decode cX6_ask 4 = .ok (.aload_n 0, 1) := by decide +kernel
theorem dX6_ask_5 : decode cX6_ask 5 = .ok (.getfield 10, 3) := by decide +kernel
theorem dX6_ask_8 : decode cX6_ask 8 = .ok (.invokevirtual 40, 3) := by decide +kernel
theorem dX6_ask_11 : decode cX6_ask 11 = .ok (.aload_n 0, 1) := by decide +kernel
theorem dX6_ask_12 : decode cX6_ask 12 = .ok (.getfield 22, 3) := by decide +kernel
theorem dX6_ask_15 : decode cX6_ask 15 = .ok (.aload_n 0, 1) := by decide +kernel
theorem dX6_ask_16 : decode cX6_ask 16 = .ok (.getfield 10, 3) := by decide +kernel
theorem dX6_ask_19 : decode cX6_ask 19 = .ok (.iload_n 1, 1) := by decide +kernel
theorem dX6_ask_20 : decode cX6_ask 20 = .ok (.invokevirtual 61, 3) := by decide +kernel
theorem dX6_ask_23 : decode cX6_ask 23 = .ok (.invokevirtual 48, 3) := by decide +kernel
theorem dX6_ask_26 : decode cX6_ask 26 = .ok (.ireturn, 1) := by decide +kernel
theorem dX6_unask_0 : decode cX6_unask 0 = .ok (.aload_n 0, 1) := by decide +kernel
theorem dX6_unask_1 : decode cX6_unask 1 = .ok (.getfield 22, 3) := by decide +kernel
theorem dX6_unask_4 : decode cX6_unask 4 = .ok (.aload_n 0, 1) := by decide +kernel
theorem dX6_unask_5 : decode cX6_unask 5 = .ok (.getfield 10, 3) := by decide +kernel
theorem dX6_unask_8 : decode cX6_unask 8 = .ok (.invokevirtual 40, 3) := by decide +kernel
theorem dX6_unask_11 : decode cX6_unask 11 = .ok (.aload_n 0, 1) := by decide +kernel
theorem dX6_unask_12 : decode cX6_unask 12 = .ok (.getfield 22, 3) := by decide +kernel
theorem dX6_unask_15 : decode cX6_unask 15 = .ok (.aload_n 0, 1) := by decide +kernel
theorem dX6_unask_16 : decode cX6_unask 16 = .ok (.getfield 10, 3) := by decide +kernel
theorem dX6_unask_19 : decode cX6_unask 19 = .ok (.iload_n 1, 1) := by decide +kernel
theorem dX6_unask_20 : decode cX6_unask 20 = .ok (.invokevirtual 64, 3) := by decide +kernel
theorem dX6_unask_23 : decode cX6_unask 23 = .ok (.invokevirtual 48, 3) := by decide +kernel
theorem dX6_unask_26 : decode cX6_unask 26 = .ok (.ireturn, 1) := by decide +kernel
theorem dX6_read_0 : decode cX6_read 0 = .ok (.aload_n 0, 1) := by decide +kernel
theorem dX6_read_1 : decode cX6_read 1 = .ok (.getfield 22, 3) := by decide +kernel
theorem dX6_read_4 : decode cX6_read 4 = .ok (.aload_n 0, 1) := by decide +kernel
theorem dX6_read_5 : decode cX6_read 5 = .ok (.getfield 10, 3) := by decide +kernel
theorem dX6_read_8 : decode cX6_read 8 = .ok (.invokevirtual 40, 3) := by decide +kernel
theorem dX6_read_11 : decode cX6_read 11 = .ok (.aload_n 0, 1) := by decide +kernel
theorem dX6_read_12 : decode cX6_read 12 = .ok (.getfield 22, 3) := by decide +kernel
theorem dX6_read_15 : decode cX6_read 15 = .ok (.aload_n 0, 1) := by decide +kernel
theorem dX6_read_16 : decode cX6_read 16 = .ok (.getfield 10, 3) := by decide +kernel
theorem dX6_read_19 : decode cX6_read 19 = .ok (.iload_n 1, 1) := by decide +kernel
theorem dX6_read_20 : decode cX6_read 20 = .ok (.iload_n 2, 1) := by decide +kernel
theorem dX6_read_21 : decode cX6_read 21 = .ok (.invokevirtual 67, 3) := by decide +kernel
theorem dX6_read_24 : decode cX6_read 24 = .ok (.invokevirtual 48, 3) := by decide +kernel
theorem dX6_read_27 : decode cX6_read 27 = .ok (.ireturn, 1) := by decide +kernel
theorem dX6_quiet_0 : decode cX6_quiet 0 = .ok (.aload_n 0, 1) := by decide +kernel
theorem dX6_quiet_1 : decode cX6_quiet 1 = .ok (.getfield 22, 3) := by decide +kernel
theorem dX6_quiet_4 : decode cX6_quiet 4 = .ok (.aload_n 0, 1) := by decide +kernel
theorem dX6_quiet_5 : decode cX6_quiet 5 = .ok (.getfield 10, 3) := by decide +kernel
theorem dX6_quiet_8 : decode cX6_quiet 8 = .ok (.invokevirtual 40, 3) := by decide +kernel
theorem dX6_quiet_11 : decode cX6_quiet 11 = .ok (.aload_n 0, 1) := by decide +kernel
theorem dX6_quiet_12 : decode cX6_quiet 12 = .ok (.getfield 22, 3) := by decide +kernel
theorem dX6_quiet_15 : decode cX6_quiet 15 = .ok (.aload_n 0, 1) := by decide +kernel
theorem dX6_quiet_16 : decode cX6_quiet 16 = .ok (.getfield 10, 3) := by decide +kernel
theorem dX6_quiet_19 : decode cX6_quiet 19 = .ok (.iload_n 1, 1) := by decide +kernel
theorem dX6_quiet_20 : decode cX6_quiet 20 = .ok (.invokevirtual 70, 3) := by decide +kernel
theorem dX6_quiet_23 : decode cX6_quiet 23 = .ok (.invokevirtual 48, 3) := by decide +kernel
theorem dX6_quiet_26 : decode cX6_quiet 26 = .ok (.ireturn, 1) := by decide +kernel
theorem dX6_giveUp_0 : decode cX6_giveUp 0 = .ok (.aload_n 0, 1) := by decide +kernel
theorem dX6_giveUp_1 : decode cX6_giveUp 1 = .ok (.getfield 22, 3) := by decide +kernel
theorem dX6_giveUp_4 : decode cX6_giveUp 4 = .ok (.aload_n 0, 1) := by decide +kernel
theorem dX6_giveUp_5 : decode cX6_giveUp 5 = .ok (.getfield 10, 3) := by decide +kernel
theorem dX6_giveUp_8 : decode cX6_giveUp 8 = .ok (.invokevirtual 40, 3) := by decide +kernel
theorem dX6_giveUp_11 : decode cX6_giveUp 11 = .ok (.aload_n 0, 1) := by decide +kernel
theorem dX6_giveUp_12 : decode cX6_giveUp 12 = .ok (.getfield 22, 3) := by decide +kernel
theorem dX6_giveUp_15 : decode cX6_giveUp 15 = .ok (.aload_n 0, 1) := by decide +kernel
theorem dX6_giveUp_16 : decode cX6_giveUp 16 = .ok (.getfield 10, 3) := by decide +kernel
theorem dX6_giveUp_19 : decode cX6_giveUp 19 = .ok (.invokevirtual 73, 3) := by decide +kernel
theorem dX6_giveUp_22 : decode cX6_giveUp 22 = .ok (.invokevirtual 48, 3) := by decide +kernel
theorem dX6_giveUp_25 : decode cX6_giveUp 25 = .ok (.ireturn, 1) := by decide +kernel
theorem dX6_count_0 : decode cX6_count 0 = .ok (.iload_n 1, 1) := by decide +kernel
theorem dX6_count_1 : decode cX6_count 1 = .ok (.ifCond .lt 9, 3) := by decide +kernel
theorem dX6_count_4 : decode cX6_count 4 = .ok (.iload_n 1, 1) := by decide +kernel
theorem dX6_count_5 : decode cX6_count 5 = .ok (.bipush 13, 2) := by decide +kernel
theorem dX6_count_7 : decode cX6_count 7 = .ok (.if_icmp .lt 6, 3) := by decide +kernel
theorem dX6_count_10 : decode cX6_count 10 = .ok (.bipush (-2), 2) := by decide +kernel
theorem dX6_count_12 : decode cX6_count 12 = .ok (.ireturn, 1) := by decide +kernel
theorem dX6_count_13 : decode cX6_count 13 = .ok (.aload_n 0, 1) := by decide +kernel
theorem dX6_count_14 : decode cX6_count 14 = .ok (.getfield 10, 3) := by decide +kernel
theorem dX6_count_17 : decode cX6_count 17 = .ok (.iload_n 1, 1) := by decide +kernel
theorem dX6_count_18 : decode cX6_count 18 = .ok (.invokevirtual 77, 3) := by decide +kernel
theorem dX6_count_21 : decode cX6_count 21 = .ok (.ireturn, 1) := by decide +kernel
theorem dX6_setting_0 : decode cX6_setting 0 = .ok (.iload_n 1, 1) := by decide +kernel
theorem dX6_setting_1 : decode cX6_setting 1 = .ok (.invokestatic 80, 3) := by decide +kernel
theorem dX6_setting_4 : decode cX6_setting 4 = .ok (.ifCond .ne 5, 3) := by decide +kernel
theorem dX6_setting_7 : decode cX6_setting 7 = .ok (.iconst (-1), 1) := by decide +kernel
theorem dX6_setting_8 : decode cX6_setting 8 = .ok (.ireturn, 1) := by decide +kernel
theorem dX6_setting_9 : decode cX6_setting 9 = .ok (.aload_n 0, 1) := by decide +kernel
theorem dX6_setting_10 : decode cX6_setting 10 = .ok (.getfield 10, 3) := by decide +kernel
theorem dX6_setting_13 : decode cX6_setting 13 = .ok (.getfield 84, 3) := by decide +kernel
theorem dX6_setting_16 : decode cX6_setting 16 = .ok (.iload_n 1, 1) := by decide +kernel
theorem dX6_setting_17 : decode cX6_setting 17 = .ok (.iaload, 1) := by decide +kernel
theorem dX6_setting_18 : decode cX6_setting 18 = .ok (.ireturn, 1) := by decide +kernel
theorem dX6_span_0 : decode cX6_span 0 = .ok (.iload_n 1, 1) := by decide +kernel
theorem dX6_span_1 : decode cX6_span 1 = .ok (.invokestatic 88, 3) := by decide +kernel
theorem dX6_span_4 : decode cX6_span 4 = .ok (.ifCond .ne 5, 3) := by decide +kernel
theorem dX6_span_7 : decode cX6_span 7 = .ok (.iconst (-1), 1) := by decide +kernel
theorem dX6_span_8 : decode cX6_span 8 = .ok (.ireturn, 1) := by decide +kernel
theorem dX6_span_9 : decode cX6_span 9 = .ok (.iload_n 2, 1) := by decide +kernel
theorem dX6_span_10 : decode cX6_span 10 = .ok (.ifCond .lt 9, 3) := by decide +kernel
theorem dX6_span_13 : decode cX6_span 13 = .ok (.iload_n 2, 1) := by decide +kernel
theorem dX6_span_14 : decode cX6_span 14 = .ok (.bipush 7, 2) := by decide +kernel
theorem dX6_span_16 : decode cX6_span 16 = .ok (.if_icmp .lt 6, 3) := by decide +kernel
theorem dX6_span_19 : decode cX6_span 19 = .ok (.bipush (-2), 2) := by decide +kernel
theorem dX6_span_21 : decode cX6_span 21 = .ok (.ireturn, 1) := by decide +kernel
theorem dX6_span_22 : decode cX6_span 22 = .ok (.aload_n 0, 1) := by decide +kernel
theorem dX6_span_23 : decode cX6_span 23 = .ok (.getfield 10, 3) := by decide +kernel
theorem dX6_span_26 : decode cX6_span 26 = .ok (.iload_n 1, 1) := by decide +kernel
theorem dX6_span_27 : decode cX6_span 27 = .ok (.iload_n 2, 1) := by decide +kernel
theorem dX6_span_28 : decode cX6_span 28 = .ok (.invokevirtual 91, 3) := by decide +kernel
theorem dX6_span_31 : decode cX6_span 31 = .ok (.ireturn, 1) := by decide +kernel
theorem dX6_tries_0 : decode cX6_tries 0 = .ok (.iload_n 1, 1) := by decide +kernel
theorem dX6_tries_1 : decode cX6_tries 1 = .ok (.invokestatic 88, 3) := by decide +kernel
theorem dX6_tries_4 : decode cX6_tries 4 = .ok (.ifCond .ne 5, 3) := by decide +kernel
theorem dX6_tries_7 : decode cX6_tries 7 = .ok (.iconst (-1), 1) := by decide +kernel
theorem dX6_tries_8 : decode cX6_tries 8 = .ok (.ireturn, 1) := by decide +kernel
theorem dX6_tries_9 : decode cX6_tries 9 = .ok (.aload_n 0, 1) := by decide +kernel
theorem dX6_tries_10 : decode cX6_tries 10 = .ok (.getfield 10, 3) := by decide +kernel
theorem dX6_tries_13 : decode cX6_tries 13 = .ok (.getfield 94, 3) := by decide +kernel
theorem dX6_tries_16 : decode cX6_tries 16 = .ok (.iload_n 1, 1) := by decide +kernel
theorem dX6_tries_17 : decode cX6_tries 17 = .ok (.iload_n 2, 1) := by decide +kernel
theorem dX6_tries_18 : decode cX6_tries 18 = .ok (.invokevirtual 98, 3) := by decide +kernel
theorem dX6_tries_21 : decode cX6_tries 21 = .ok (.ireturn, 1) := by decide +kernel
theorem dX6_entries_0 : decode cX6_entries 0 = .ok (.aload_n 0, 1) := by decide +kernel
theorem dX6_entries_1 : decode cX6_entries 1 = .ok (.getfield 10, 3) := by decide +kernel
theorem dX6_entries_4 : decode cX6_entries 4 = .ok (.getfield 103, 3) := by decide +kernel
theorem dX6_entries_7 : decode cX6_entries 7 = .ok (.getfield 107, 3) := by decide +kernel
theorem dX6_entries_10 : decode cX6_entries 10 = .ok (.ireturn, 1) := by decide +kernel
theorem dX6_entry_0 : decode cX6_entry 0 = .ok (.aload_n 0, 1) := by decide +kernel
theorem dX6_entry_1 : decode cX6_entry 1 = .ok (.getfield 10, 3) := by decide +kernel
theorem dX6_entry_4 : decode cX6_entry 4 = .ok (.getfield 103, 3) := by decide +kernel
theorem dX6_entry_7 : decode cX6_entry 7 = .ok (.iload_n 1, 1) := by decide +kernel
theorem dX6_entry_8 : decode cX6_entry 8 = .ok (.invokevirtual 113, 3) := by decide +kernel
theorem dX6_entry_11 : decode cX6_entry 11 = .ok (.ifCond .ne 5, 3) := by decide +kernel
theorem dX6_entry_14 : decode cX6_entry 14 = .ok (.iconst (-1), 1) := by decide +kernel
theorem dX6_entry_15 : decode cX6_entry 15 = .ok (.ireturn, 1) := by decide +kernel
theorem dX6_entry_16 : decode cX6_entry 16 = .ok (.iload_n 2, 1) := by decide +kernel
theorem dX6_entry_17 : decode cX6_entry 17 = .ok (.ifCond .lt 8, 3) := by decide +kernel
theorem dX6_entry_20 : decode cX6_entry 20 = .ok (.iload_n 2, 1) := by decide +kernel
theorem dX6_entry_21 : decode cX6_entry 21 = .ok (.iconst 4, 1) := by decide +kernel
theorem dX6_entry_22 : decode cX6_entry 22 = .ok (.if_icmp .lt 6, 3) := by decide +kernel
theorem dX6_entry_25 : decode cX6_entry 25 = .ok (.bipush (-2), 2) := by decide +kernel
theorem dX6_entry_27 : decode cX6_entry 27 = .ok (.ireturn, 1) := by decide +kernel
theorem dX6_entry_28 : decode cX6_entry 28 = .ok (.iload_n 2, 1) := by decide +kernel
theorem dX6_entry_29 : decode cX6_entry 29 = .ok (.tableswitch 63 0 2 #[27, 39, 51], 27) := by decide +kernel
theorem dX6_entry_56 : decode cX6_entry 56 = .ok (.aload_n 0, 1) := by decide +kernel
theorem dX6_entry_57 : decode cX6_entry 57 = .ok (.getfield 10, 3) := by decide +kernel
theorem dX6_entry_60 : decode cX6_entry 60 = .ok (.getfield 103, 3) := by decide +kernel
theorem dX6_entry_63 : decode cX6_entry 63 = .ok (.iload_n 1, 1) := by decide +kernel
theorem dX6_entry_64 : decode cX6_entry 64 = .ok (.invokevirtual 116, 3) := by decide +kernel
theorem dX6_entry_67 : decode cX6_entry 67 = .ok (.ireturn, 1) := by decide +kernel
theorem dX6_entry_68 : decode cX6_entry 68 = .ok (.aload_n 0, 1) := by decide +kernel
theorem dX6_entry_69 : decode cX6_entry 69 = .ok (.getfield 10, 3) := by decide +kernel
theorem dX6_entry_72 : decode cX6_entry 72 = .ok (.getfield 103, 3) := by decide +kernel
theorem dX6_entry_75 : decode cX6_entry 75 = .ok (.iload_n 1, 1) := by decide +kernel
theorem dX6_entry_76 : decode cX6_entry 76 = .ok (.invokevirtual 119, 3) := by decide +kernel
theorem dX6_entry_79 : decode cX6_entry 79 = .ok (.ireturn, 1) := by decide +kernel
theorem dX6_entry_80 : decode cX6_entry 80 = .ok (.aload_n 0, 1) := by decide +kernel
theorem dX6_entry_81 : decode cX6_entry 81 = .ok (.getfield 10, 3) := by decide +kernel
theorem dX6_entry_84 : decode cX6_entry 84 = .ok (.getfield 103, 3) := by decide +kernel
theorem dX6_entry_87 : decode cX6_entry 87 = .ok (.iload_n 1, 1) := by decide +kernel
theorem dX6_entry_88 : decode cX6_entry 88 = .ok (.invokevirtual 122, 3) := by decide +kernel
theorem dX6_entry_91 : decode cX6_entry 91 = .ok (.ireturn, 1) := by decide +kernel
theorem dX6_entry_92 : decode cX6_entry 92 = .ok (.aload_n 0, 1) := by decide +kernel
theorem dX6_entry_93 : decode cX6_entry 93 = .ok (.iload_n 1, 1) := by decide +kernel
theorem dX6_entry_94 : decode cX6_entry 94 = .ok (.invokevirtual 125, 3) := by decide +kernel
theorem dX6_entry_97 : decode cX6_entry 97 = .ok (.aload_n 0, 1) := by decide +kernel
theorem dX6_entry_98 : decode cX6_entry 98 = .ok (.getfield 36, 3) := by decide +kernel
theorem dX6_entry_101 : decode cX6_entry 101 = .ok (.invokevirtual 129, 3) := by decide +kernel
theorem dX6_entry_104 : decode cX6_entry 104 = .ok (.ireturn, 1) := by decide +kernel
theorem dX6_lineAt_0 : decode cX6_lineAt 0 = .ok (.aload_n 0, 1) := by decide +kernel
theorem dX6_lineAt_1 : decode cX6_lineAt 1 = .ok (.getfield 10, 3) := by decide +kernel
theorem dX6_lineAt_4 : decode cX6_lineAt 4 = .ok (.getfield 103, 3) := by decide +kernel
theorem dX6_lineAt_7 : decode cX6_lineAt 7 = .ok (.iload_n 1, 1) := by decide +kernel
theorem dX6_lineAt_8 : decode cX6_lineAt 8 = .ok (.invokevirtual 113, 3) := by decide +kernel
theorem dX6_lineAt_11 : decode cX6_lineAt 11 = .ok (.ifCond .ne 5, 3) := by decide +kernel
theorem dX6_lineAt_14 : decode cX6_lineAt 14 = .ok (.iconst (-1), 1) := by decide +kernel
theorem dX6_lineAt_15 : decode cX6_lineAt 15 = .ok (.ireturn, 1) := by decide +kernel
theorem dX6_lineAt_16 : decode cX6_lineAt 16 = .ok (.aload_n 0, 1) := by decide +kernel
theorem dX6_lineAt_17 : decode cX6_lineAt 17 = .ok (.iload_n 1, 1) := by decide +kernel
theorem dX6_lineAt_18 : decode cX6_lineAt 18 = .ok (.invokevirtual 125, 3) := by decide +kernel
theorem dX6_lineAt_21 : decode cX6_lineAt 21 = .ok (.iload_n 2, 1) := by decide +kernel
theorem dX6_lineAt_22 : decode cX6_lineAt 22 = .ok (.ifCond .lt 14, 3) := by decide +kernel
theorem dX6_lineAt_25 : decode cX6_lineAt 25 = .ok (.iload_n 2, 1) := by decide +kernel
theorem dX6_lineAt_26 : decode cX6_lineAt 26 = .ok (.aload_n 0, 1) := by decide +kernel
theorem dX6_lineAt_27 : decode cX6_lineAt 27 = .ok (.getfield 36, 3) := by decide +kernel
theorem dX6_lineAt_30 : decode cX6_lineAt 30 = .ok (.invokevirtual 129, 3) := by decide +kernel
theorem dX6_lineAt_33 : decode cX6_lineAt 33 = .ok (.if_icmp .lt 5, 3) := by decide +kernel
theorem dX6_lineAt_36 : decode cX6_lineAt 36 = .ok (.iconst (-1), 1) := by decide +kernel
theorem dX6_lineAt_37 : decode cX6_lineAt 37 = .ok (.ireturn, 1) := by decide +kernel
theorem dX6_lineAt_38 : decode cX6_lineAt 38 = .ok (.aload_n 0, 1) := by decide +kernel
theorem dX6_lineAt_39 : decode cX6_lineAt 39 = .ok (.getfield 36, 3) := by decide +kernel
theorem dX6_lineAt_42 : decode cX6_lineAt 42 = .ok (.iload_n 2, 1) := by decide +kernel
theorem dX6_lineAt_43 : decode cX6_lineAt 43 = .ok (.invokevirtual 132, 3) := by decide +kernel
theorem dX6_lineAt_46 : decode cX6_lineAt 46 = .ok (.ireturn, 1) := by decide +kernel
theorem dX6_overdue_0 : decode cX6_overdue 0 = .ok (.aload_n 0, 1) := by decide +kernel
theorem dX6_overdue_1 : decode cX6_overdue 1 = .ok (.getfield 10, 3) := by decide +kernel
theorem dX6_overdue_4 : decode cX6_overdue 4 = .ok (.invokevirtual 136, 3) := by decide +kernel
theorem dX6_overdue_7 : decode cX6_overdue 7 = .ok (.ireturn, 1) := by decide +kernel
theorem dX6_nextCheck_0 : decode cX6_nextCheck 0 = .ok (.aload_n 0, 1) := by decide +kernel
theorem dX6_nextCheck_1 : decode cX6_nextCheck 1 = .ok (.getfield 10, 3) := by decide +kernel
theorem dX6_nextCheck_4 : decode cX6_nextCheck 4 = .ok (.invokevirtual 139, 3) := by decide +kernel
theorem dX6_nextCheck_7 : decode cX6_nextCheck 7 = .ok (.ireturn, 1) := by decide +kernel
theorem dX6_checkedIn_0 : decode cX6_checkedIn 0 = .ok (.iload_n 1, 1) := by decide +kernel
theorem dX6_checkedIn_1 : decode cX6_checkedIn 1 = .ok (.invokestatic 88, 3) := by decide +kernel
theorem dX6_checkedIn_4 : decode cX6_checkedIn 4 = .ok (.ifCond .ne 5, 3) := by decide +kernel
theorem dX6_checkedIn_7 : decode cX6_checkedIn 7 = .ok (.iconst (-1), 1) := by decide +kernel
theorem dX6_checkedIn_8 : decode cX6_checkedIn 8 = .ok (.ireturn, 1) := by decide +kernel
theorem dX6_checkedIn_9 : decode cX6_checkedIn 9 = .ok (.aload_n 0, 1) := by decide +kernel
theorem dX6_checkedIn_10 : decode cX6_checkedIn 10 = .ok (.getfield 16, 3) := by decide +kernel
theorem dX6_checkedIn_13 : decode cX6_checkedIn 13 = .ok (.aload_n 0, 1) := by decide +kernel
theorem dX6_checkedIn_14 : decode cX6_checkedIn 14 = .ok (.getfield 10, 3) := by decide +kernel
theorem dX6_checkedIn_17 : decode cX6_checkedIn 17 = .ok (.invokevirtual 142, 3) := by decide +kernel
theorem dX6_checkedIn_20 : decode cX6_checkedIn 20 = .ok (.iconst 1, 1) := by decide +kernel
theorem dX6_checkedIn_21 : decode cX6_checkedIn 21 = .ok (.istore_n 2, 1) := by decide +kernel
theorem dX6_checkedIn_22 : decode cX6_checkedIn 22 = .ok (.iload_n 2, 1) := by decide +kernel
theorem dX6_checkedIn_23 : decode cX6_checkedIn 23 = .ok (.sipush 3000, 3) := by decide +kernel
theorem dX6_checkedIn_26 : decode cX6_checkedIn 26 = .ok (.if_icmp .gt 22, 3) := by decide +kernel
theorem dX6_checkedIn_29 : decode cX6_checkedIn 29 = .ok (.aload_n 0, 1) := by decide +kernel
theorem dX6_checkedIn_30 : decode cX6_checkedIn 30 = .ok (.getfield 16, 3) := by decide +kernel
theorem dX6_checkedIn_33 : decode cX6_checkedIn 33 = .ok (.invokevirtual 145, 3) := by decide +kernel
theorem dX6_checkedIn_36 : decode cX6_checkedIn 36 = .ok (.iload_n 1, 1) := by decide +kernel
theorem dX6_checkedIn_37 : decode cX6_checkedIn 37 = .ok (.if_icmp .ne 5, 3) := by decide +kernel
theorem dX6_checkedIn_40 : decode cX6_checkedIn 40 = .ok (.iload_n 2, 1) := by decide +kernel
theorem dX6_checkedIn_41 : decode cX6_checkedIn 41 = .ok (.ireturn, 1) := by decide +kernel
theorem dX6_checkedIn_42 : decode cX6_checkedIn 42 = .ok (.iinc 2 1, 3) := by decide +kernel
theorem dX6_checkedIn_45 : decode cX6_checkedIn 45 = .ok (.goto (-23), 3) := by decide +kernel
theorem dX6_checkedIn_48 : decode cX6_checkedIn 48 = .ok (.bipush (-6), 2) := by decide +kernel
theorem dX6_checkedIn_50 : decode cX6_checkedIn 50 = .ok (.ireturn, 1) := by decide +kernel
theorem dX6_ifQuiet_0 : decode cX6_ifQuiet 0 = .ok (.iload_n 1, 1) := by decide +kernel
theorem dX6_ifQuiet_1 : decode cX6_ifQuiet 1 = .ok (.ifCond .lt 10, 3) := by decide +kernel
theorem dX6_ifQuiet_4 : decode cX6_ifQuiet 4 = .ok (.iload_n 1, 1) := by decide +kernel
theorem dX6_ifQuiet_5 : decode cX6_ifQuiet 5 = .ok (.sipush 3000, 3) := by decide +kernel
theorem dX6_ifQuiet_8 : decode cX6_ifQuiet 8 = .ok (.if_icmp .le 6, 3) := by decide +kernel
theorem dX6_ifQuiet_11 : decode cX6_ifQuiet 11 = .ok (.bipush (-2), 2) := by decide +kernel
theorem dX6_ifQuiet_13 : decode cX6_ifQuiet 13 = .ok (.ireturn, 1) := by decide +kernel
theorem dX6_ifQuiet_14 : decode cX6_ifQuiet 14 = .ok (.aload_n 0, 1) := by decide +kernel
theorem dX6_ifQuiet_15 : decode cX6_ifQuiet 15 = .ok (.iload_n 1, 1) := by decide +kernel
theorem dX6_ifQuiet_16 : decode cX6_ifQuiet 16 = .ok (.aload_n 0, 1) := by decide +kernel
theorem dX6_ifQuiet_17 : decode cX6_ifQuiet 17 = .ok (.getfield 10, 3) := by decide +kernel
theorem dX6_ifQuiet_20 : decode cX6_ifQuiet 20 = .ok (.getfield 148, 3) := by decide +kernel
theorem dX6_ifQuiet_23 : decode cX6_ifQuiet 23 = .ok (.invokevirtual 151, 3) := by decide +kernel
theorem dX6_ifQuiet_26 : decode cX6_ifQuiet 26 = .ok (.ireturn, 1) := by decide +kernel
theorem dX6_bestWay_0 : decode cX6_bestWay 0 = .ok (.iload_n 1, 1) := by decide +kernel
theorem dX6_bestWay_1 : decode cX6_bestWay 1 = .ok (.ifCond .lt 10, 3) := by decide +kernel
theorem dX6_bestWay_4 : decode cX6_bestWay 4 = .ok (.iload_n 1, 1) := by decide +kernel
theorem dX6_bestWay_5 : decode cX6_bestWay 5 = .ok (.sipush 3000, 3) := by decide +kernel
theorem dX6_bestWay_8 : decode cX6_bestWay 8 = .ok (.if_icmp .le 6, 3) := by decide +kernel
theorem dX6_bestWay_11 : decode cX6_bestWay 11 = .ok (.bipush (-2), 2) := by decide +kernel
theorem dX6_bestWay_13 : decode cX6_bestWay 13 = .ok (.ireturn, 1) := by decide +kernel
theorem dX6_bestWay_14 : decode cX6_bestWay 14 = .ok (.iconst 0, 1) := by decide +kernel
theorem dX6_bestWay_15 : decode cX6_bestWay 15 = .ok (.istore_n 2, 1) := by decide +kernel
theorem dX6_bestWay_16 : decode cX6_bestWay 16 = .ok (.aload_n 0, 1) := by decide +kernel
theorem dX6_bestWay_17 : decode cX6_bestWay 17 = .ok (.iload_n 1, 1) := by decide +kernel
theorem dX6_bestWay_18 : decode cX6_bestWay 18 = .ok (.iload_n 2, 1) := by decide +kernel
theorem dX6_bestWay_19 : decode cX6_bestWay 19 = .ok (.invokevirtual 151, 3) := by decide +kernel
theorem dX6_bestWay_22 : decode cX6_bestWay 22 = .ok (.istore_n 3, 1) := by decide +kernel
theorem dX6_bestWay_23 : decode cX6_bestWay 23 = .ok (.iconst 1, 1) := by decide +kernel
theorem dX6_bestWay_24 : decode cX6_bestWay 24 = .ok (.istore 4, 2) := by decide +kernel
theorem dX6_bestWay_26 : decode cX6_bestWay 26 = .ok (.iload 4, 2) := by decide +kernel
theorem dX6_bestWay_28 : decode cX6_bestWay 28 = .ok (.iconst 3, 1) := by decide +kernel
theorem dX6_bestWay_29 : decode cX6_bestWay 29 = .ok (.if_icmp .ge 30, 3) := by decide +kernel
theorem dX6_bestWay_32 : decode cX6_bestWay 32 = .ok (.aload_n 0, 1) := by decide +kernel
theorem dX6_bestWay_33 : decode cX6_bestWay 33 = .ok (.iload_n 1, 1) := by decide +kernel
theorem dX6_bestWay_34 : decode cX6_bestWay 34 = .ok (.iload 4, 2) := by decide +kernel
theorem dX6_bestWay_36 : decode cX6_bestWay 36 = .ok (.invokevirtual 151, 3) := by decide +kernel
theorem dX6_bestWay_39 : decode cX6_bestWay 39 = .ok (.istore 5, 2) := by decide +kernel
theorem dX6_bestWay_41 : decode cX6_bestWay 41 = .ok (.iload 5, 2) := by decide +kernel
theorem dX6_bestWay_43 : decode cX6_bestWay 43 = .ok (.iload_n 3, 1) := by decide +kernel
theorem dX6_bestWay_44 : decode cX6_bestWay 44 = .ok (.if_icmp .ge 9, 3) := by decide +kernel
theorem dX6_bestWay_47 : decode cX6_bestWay 47 = .ok (.iload 5, 2) := by decide +kernel
theorem dX6_bestWay_49 : decode cX6_bestWay 49 = .ok (.istore_n 3, 1) := by decide +kernel
theorem dX6_bestWay_50 : decode cX6_bestWay 50 = .ok (.iload 4, 2) := by decide +kernel
theorem dX6_bestWay_52 : decode cX6_bestWay 52 = .ok (.istore_n 2, 1) := by decide +kernel
theorem dX6_bestWay_53 : decode cX6_bestWay 53 = .ok (.iinc 4 1, 3) := by decide +kernel
theorem dX6_bestWay_56 : decode cX6_bestWay 56 = .ok (.goto (-30), 3) := by decide +kernel
theorem dX6_bestWay_59 : decode cX6_bestWay 59 = .ok (.iload_n 2, 1) := by decide +kernel
theorem dX6_bestWay_60 : decode cX6_bestWay 60 = .ok (.ireturn, 1) := by decide +kernel
theorem dX6_type_0 : decode cX6_type 0 = .ok (.aload_n 0, 1) := by decide +kernel
theorem dX6_type_1 : decode cX6_type 1 = .ok (.getfield 29, 3) := by decide +kernel
theorem dX6_type_4 : decode cX6_type 4 = .ok (.iload_n 1, 1) := by decide +kernel
theorem dX6_type_5 : decode cX6_type 5 = .ok (.invokevirtual 154, 3) := by decide +kernel
theorem dX6_type_8 : decode cX6_type 8 = .ok (.ireturn, 1) := by decide +kernel
theorem dX6_clearText_0 : decode cX6_clearText 0 = .ok (.aload_n 0, 1) := by decide +kernel
theorem dX6_clearText_1 : decode cX6_clearText 1 = .ok (.getfield 29, 3) := by decide +kernel
theorem dX6_clearText_4 : decode cX6_clearText 4 = .ok (.invokevirtual 157, 3) := by decide +kernel
theorem dX6_clearText_7 : decode cX6_clearText 7 = .ok (.ireturn, 1) := by decide +kernel
theorem dX6_syntaxError_0 : decode cX6_syntaxError 0 = .ok (.aload_n 0, 1) := by decide +kernel
theorem dX6_syntaxError_1 : decode cX6_syntaxError 1 = .ok (.getfield 29, 3) := by decide +kernel
theorem dX6_syntaxError_4 : decode cX6_syntaxError 4 = .ok (.invokevirtual 160, 3) := by decide +kernel
theorem dX6_syntaxError_7 : decode cX6_syntaxError 7 = .ok (.ireturn, 1) := by decide +kernel
theorem dX6_carryOut_0 : decode cX6_carryOut 0 = .ok (.aload_n 0, 1) := by decide +kernel
theorem dX6_carryOut_1 : decode cX6_carryOut 1 = .ok (.getfield 29, 3) := by decide +kernel
theorem dX6_carryOut_4 : decode cX6_carryOut 4 = .ok (.invokevirtual 160, 3) := by decide +kernel
theorem dX6_carryOut_7 : decode cX6_carryOut 7 = .ok (.bipush (-6), 2) := by decide +kernel
theorem dX6_carryOut_9 : decode cX6_carryOut 9 = .ok (.if_icmp .eq 6, 3) := by decide +kernel
theorem dX6_carryOut_12 : decode cX6_carryOut 12 = .ok (.bipush (-5), 2) := by decide +kernel
theorem dX6_carryOut_14 : decode cX6_carryOut 14 = .ok (.ireturn, 1) := by decide +kernel
theorem dX6_carryOut_15 : decode cX6_carryOut 15 = .ok (.aload_n 0, 1) := by decide +kernel
theorem dX6_carryOut_16 : decode cX6_carryOut 16 = .ok (.getfield 22, 3) := by decide +kernel
theorem dX6_carryOut_19 : decode cX6_carryOut 19 = .ok (.aload_n 0, 1) := by decide +kernel
theorem dX6_carryOut_20 : decode cX6_carryOut 20 = .ok (.getfield 10, 3) := by decide +kernel
theorem dX6_carryOut_23 : decode cX6_carryOut 23 = .ok (.invokevirtual 40, 3) := by decide +kernel
theorem dX6_carryOut_26 : decode cX6_carryOut 26 = .ok (.aload_n 0, 1) := by decide +kernel
theorem dX6_carryOut_27 : decode cX6_carryOut 27 = .ok (.getfield 29, 3) := by decide +kernel
theorem dX6_carryOut_30 : decode cX6_carryOut 30 = .ok (.getfield 163, 3) := by decide +kernel
theorem dX6_carryOut_33 : decode cX6_carryOut 33 = .ok (.istore_n 1, 1) := by decide +kernel
theorem dX6_carryOut_34 : decode cX6_carryOut 34 = .ok (.iconst 0, 1) := by decide +kernel
theorem dX6_carryOut_35 : decode cX6_carryOut 35 = .ok (.istore_n 2, 1) := by decide +kernel
theorem dX6_carryOut_36 : decode cX6_carryOut 36 = .ok (.iload_n 2, 1) := by decide +kernel
theorem dX6_carryOut_37 : decode cX6_carryOut 37 = .ok (.iload_n 1, 1) := by decide +kernel
theorem dX6_carryOut_38 : decode cX6_carryOut 38 = .ok (.if_icmp .ge 17, 3) := by decide +kernel
theorem dX6_carryOut_41 : decode cX6_carryOut 41 = .ok (.aload_n 0, 1) := by decide +kernel
theorem dX6_carryOut_42 : decode cX6_carryOut 42 = .ok (.iload_n 2, 1) := by decide +kernel
theorem dX6_carryOut_43 : decode cX6_carryOut 43 = .ok (.invokevirtual 166, 3) := by decide +kernel
theorem dX6_carryOut_46 : decode cX6_carryOut 46 = .ok (.ifCond .lt 9, 3) := by decide +kernel
theorem dX6_carryOut_49 : decode cX6_carryOut 49 = .ok (.iinc 2 1, 3) := by decide +kernel
theorem dX6_carryOut_52 : decode cX6_carryOut 52 = .ok (.goto (-16), 3) := by decide +kernel
theorem dX6_carryOut_55 : decode cX6_carryOut 55 = .ok (.aload_n 0, 1) := by decide +kernel
theorem dX6_carryOut_56 : decode cX6_carryOut 56 = .ok (.getfield 29, 3) := by decide +kernel
theorem dX6_carryOut_59 : decode cX6_carryOut 59 = .ok (.invokevirtual 157, 3) := by decide +kernel
theorem dX6_carryOut_62 : decode cX6_carryOut 62 = .ok (.pop, 1) := by decide +kernel
theorem dX6_carryOut_63 : decode cX6_carryOut 63 = .ok (.aload_n 0, 1) := by decide +kernel
theorem dX6_carryOut_64 : decode cX6_carryOut 64 = .ok (.getfield 22, 3) := by decide +kernel
theorem dX6_carryOut_67 : decode cX6_carryOut 67 = .ok (.iload_n 2, 1) := by decide +kernel
theorem dX6_carryOut_68 : decode cX6_carryOut 68 = .ok (.invokevirtual 48, 3) := by decide +kernel
theorem dX6_carryOut_71 : decode cX6_carryOut 71 = .ok (.ireturn, 1) := by decide +kernel
theorem dX6_undo_0 : decode cX6_undo 0 = .ok (.aload_n 0, 1) := by decide +kernel
theorem dX6_undo_1 : decode cX6_undo 1 = .ok (.getfield 22, 3) := by decide +kernel
theorem dX6_undo_4 : decode cX6_undo 4 = .ok (.aload_n 0, 1) := by decide +kernel
theorem dX6_undo_5 : decode cX6_undo 5 = .ok (.getfield 10, 3) := by decide +kernel
theorem dX6_undo_8 : decode cX6_undo 8 = .ok (.invokevirtual 169, 3) := by decide +kernel
theorem dX6_undo_11 : decode cX6_undo 11 = .ok (.ireturn, 1) := by decide +kernel
theorem dX6_digest_0 : decode cX6_digest 0 = .ok (.ldc2_w 173, 3) := by decide +kernel
theorem dX6_digest_3 : decode cX6_digest 3 = .ok (.lstore_n 1, 1) := by decide +kernel
theorem dX6_digest_4 : decode cX6_digest 4 = .ok (.iconst 0, 1) := by decide +kernel
theorem dX6_digest_5 : decode cX6_digest 5 = .ok (.istore_n 3, 1) := by decide +kernel
theorem dX6_digest_6 : decode cX6_digest 6 = .ok (.iload_n 3, 1) := by decide +kernel
theorem dX6_digest_7 : decode cX6_digest 7 = .ok (.bipush 13, 2) := by decide +kernel
theorem dX6_digest_9 : decode cX6_digest 9 = .ok (.if_icmp .ge 22, 3) := by decide +kernel
theorem dX6_digest_12 : decode cX6_digest 12 = .ok (.ldc2_w 175, 3) := by decide +kernel
theorem dX6_digest_15 : decode cX6_digest 15 = .ok (.lload_n 1, 1) := by decide +kernel
theorem dX6_digest_16 : decode cX6_digest 16 = .ok (.lmul, 1) := by decide +kernel
theorem dX6_digest_17 : decode cX6_digest 17 = .ok (.aload_n 0, 1) := by decide +kernel
theorem dX6_digest_18 : decode cX6_digest 18 = .ok (.iload_n 3, 1) := by decide +kernel
theorem dX6_digest_19 : decode cX6_digest 19 = .ok (.invokevirtual 177, 3) := by decide +kernel
theorem dX6_digest_22 : decode cX6_digest 22 = .ok (.i2l, 1) := by decide +kernel
theorem dX6_digest_23 : decode cX6_digest 23 = .ok (.ladd, 1) := by decide +kernel
theorem dX6_digest_24 : decode cX6_digest 24 = .ok (.lstore_n 1, 1) := by decide +kernel
theorem dX6_digest_25 : decode cX6_digest 25 = .ok (.iinc 3 1, 3) := by decide +kernel
theorem dX6_digest_28 : decode cX6_digest 28 = .ok (.goto (-22), 3) := by decide +kernel
theorem dX6_digest_31 : decode cX6_digest 31 = .ok (.iconst 0, 1) := by decide +kernel
theorem dX6_digest_32 : decode cX6_digest 32 = .ok (.istore_n 3, 1) := by decide +kernel
theorem dX6_digest_33 : decode cX6_digest 33 = .ok (.iload_n 3, 1) := by decide +kernel
theorem dX6_digest_34 : decode cX6_digest 34 = .ok (.iconst 5, 1) := by decide +kernel
theorem dX6_digest_35 : decode cX6_digest 35 = .ok (.if_icmp .ge 22, 3) := by decide +kernel
theorem dX6_digest_38 : decode cX6_digest 38 = .ok (.ldc2_w 175, 3) := by decide +kernel
theorem dX6_digest_41 : decode cX6_digest 41 = .ok (.lload_n 1, 1) := by decide +kernel
theorem dX6_digest_42 : decode cX6_digest 42 = .ok (.lmul, 1) := by decide +kernel
theorem dX6_digest_43 : decode cX6_digest 43 = .ok (.aload_n 0, 1) := by decide +kernel
theorem dX6_digest_44 : decode cX6_digest 44 = .ok (.iload_n 3, 1) := by decide +kernel
theorem dX6_digest_45 : decode cX6_digest 45 = .ok (.invokevirtual 180, 3) := by decide +kernel
theorem dX6_digest_48 : decode cX6_digest 48 = .ok (.i2l, 1) := by decide +kernel
theorem dX6_digest_49 : decode cX6_digest 49 = .ok (.ladd, 1) := by decide +kernel
theorem dX6_digest_50 : decode cX6_digest 50 = .ok (.lstore_n 1, 1) := by decide +kernel
theorem dX6_digest_51 : decode cX6_digest 51 = .ok (.iinc 3 1, 3) := by decide +kernel
theorem dX6_digest_54 : decode cX6_digest 54 = .ok (.goto (-21), 3) := by decide +kernel
theorem dX6_digest_57 : decode cX6_digest 57 = .ok (.iconst 0, 1) := by decide +kernel
theorem dX6_digest_58 : decode cX6_digest 58 = .ok (.istore_n 3, 1) := by decide +kernel
theorem dX6_digest_59 : decode cX6_digest 59 = .ok (.iload_n 3, 1) := by decide +kernel
theorem dX6_digest_60 : decode cX6_digest 60 = .ok (.bipush 8, 2) := by decide +kernel
theorem dX6_digest_62 : decode cX6_digest 62 = .ok (.if_icmp .ge 16, 3) := by decide +kernel
theorem dX6_digest_65 : decode cX6_digest 65 = .ok (.aload_n 0, 1) := by decide +kernel
theorem dX6_digest_66 : decode cX6_digest 66 = .ok (.lload_n 1, 1) := by decide +kernel
theorem dX6_digest_67 : decode cX6_digest 67 = .ok (.iload_n 3, 1) := by decide +kernel
theorem dX6_digest_68 : decode cX6_digest 68 = .ok (.invokevirtual 183, 3) := by decide +kernel
theorem dX6_digest_71 : decode cX6_digest 71 = .ok (.lstore_n 1, 1) := by decide +kernel
theorem dX6_digest_72 : decode cX6_digest 72 = .ok (.iinc 3 1, 3) := by decide +kernel
theorem dX6_digest_75 : decode cX6_digest 75 = .ok (.goto (-16), 3) := by decide +kernel
theorem dX6_digest_78 : decode cX6_digest 78 = .ok (.ldc2_w 175, 3) := by decide +kernel
theorem dX6_digest_81 : decode cX6_digest 81 = .ok (.lload_n 1, 1) := by decide +kernel
theorem dX6_digest_82 : decode cX6_digest 82 = .ok (.lmul, 1) := by decide +kernel
theorem dX6_digest_83 : decode cX6_digest 83 = .ok (.aload_n 0, 1) := by decide +kernel
theorem dX6_digest_84 : decode cX6_digest 84 = .ok (.invokevirtual 187, 3) := by decide +kernel
theorem dX6_digest_87 : decode cX6_digest 87 = .ok (.i2l, 1) := by decide +kernel
theorem dX6_digest_88 : decode cX6_digest 88 = .ok (.ladd, 1) := by decide +kernel
theorem dX6_digest_89 : decode cX6_digest 89 = .ok (.lstore_n 1, 1) := by decide +kernel
theorem dX6_digest_90 : decode cX6_digest 90 = .ok (.iconst 0, 1) := by decide +kernel
theorem dX6_digest_91 : decode cX6_digest 91 = .ok (.istore_n 3, 1) := by decide +kernel
theorem dX6_digest_92 : decode cX6_digest 92 = .ok (.iload_n 3, 1) := by decide +kernel
theorem dX6_digest_93 : decode cX6_digest 93 = .ok (.aload_n 0, 1) := by decide +kernel
theorem dX6_digest_94 : decode cX6_digest 94 = .ok (.getfield 10, 3) := by decide +kernel
theorem dX6_digest_97 : decode cX6_digest 97 = .ok (.getfield 103, 3) := by decide +kernel
theorem dX6_digest_100 : decode cX6_digest 100 = .ok (.getfield 107, 3) := by decide +kernel
theorem dX6_digest_103 : decode cX6_digest 103 = .ok (.if_icmp .ge 16, 3) := by decide +kernel
theorem dX6_digest_106 : decode cX6_digest 106 = .ok (.aload_n 0, 1) := by decide +kernel
theorem dX6_digest_107 : decode cX6_digest 107 = .ok (.lload_n 1, 1) := by decide +kernel
theorem dX6_digest_108 : decode cX6_digest 108 = .ok (.iload_n 3, 1) := by decide +kernel
theorem dX6_digest_109 : decode cX6_digest 109 = .ok (.invokevirtual 190, 3) := by decide +kernel
theorem dX6_digest_112 : decode cX6_digest 112 = .ok (.lstore_n 1, 1) := by decide +kernel
theorem dX6_digest_113 : decode cX6_digest 113 = .ok (.iinc 3 1, 3) := by decide +kernel
theorem dX6_digest_116 : decode cX6_digest 116 = .ok (.goto (-24), 3) := by decide +kernel
theorem dX6_digest_119 : decode cX6_digest 119 = .ok (.ldc2_w 175, 3) := by decide +kernel
theorem dX6_digest_122 : decode cX6_digest 122 = .ok (.lload_n 1, 1) := by decide +kernel
theorem dX6_digest_123 : decode cX6_digest 123 = .ok (.lmul, 1) := by decide +kernel
theorem dX6_digest_124 : decode cX6_digest 124 = .ok (.aload_n 0, 1) := by decide +kernel
theorem dX6_digest_125 : decode cX6_digest 125 = .ok (.invokevirtual 193, 3) := by decide +kernel
theorem dX6_digest_128 : decode cX6_digest 128 = .ok (.i2l, 1) := by decide +kernel
theorem dX6_digest_129 : decode cX6_digest 129 = .ok (.ladd, 1) := by decide +kernel
theorem dX6_digest_130 : decode cX6_digest 130 = .ok (.lstore_n 1, 1) := by decide +kernel
theorem dX6_digest_131 : decode cX6_digest 131 = .ok (.ldc2_w 175, 3) := by decide +kernel
theorem dX6_digest_134 : decode cX6_digest 134 = .ok (.lload_n 1, 1) := by decide +kernel
theorem dX6_digest_135 : decode cX6_digest 135 = .ok (.lmul, 1) := by decide +kernel
theorem dX6_digest_136 : decode cX6_digest 136 = .ok (.aload_n 0, 1) := by decide +kernel
theorem dX6_digest_137 : decode cX6_digest 137 = .ok (.invokevirtual 196, 3) := by decide +kernel
theorem dX6_digest_140 : decode cX6_digest 140 = .ok (.i2l, 1) := by decide +kernel
theorem dX6_digest_141 : decode cX6_digest 141 = .ok (.ladd, 1) := by decide +kernel
theorem dX6_digest_142 : decode cX6_digest 142 = .ok (.lreturn, 1) := by decide +kernel
theorem dX6_hashSpan_0 : decode cX6_hashSpan 0 = .ok (.lload_n 1, 1) := by decide +kernel
theorem dX6_hashSpan_1 : decode cX6_hashSpan 1 = .ok (.lstore 4, 2) := by decide +kernel
theorem dX6_hashSpan_3 : decode cX6_hashSpan 3 = .ok (.iconst 0, 1) := by decide +kernel
theorem dX6_hashSpan_4 : decode cX6_hashSpan 4 = .ok (.istore 6, 2) := by decide +kernel
theorem dX6_hashSpan_6 : decode cX6_hashSpan 6 = .ok (.iload 6, 2) := by decide +kernel
theorem dX6_hashSpan_8 : decode cX6_hashSpan 8 = .ok (.bipush 7, 2) := by decide +kernel
theorem dX6_hashSpan_10 : decode cX6_hashSpan 10 = .ok (.if_icmp .ge 26, 3) := by decide +kernel
theorem dX6_hashSpan_13 : decode cX6_hashSpan 13 = .ok (.ldc2_w 175, 3) := by decide +kernel
theorem dX6_hashSpan_16 : decode cX6_hashSpan 16 = .ok (.lload 4, 2) := by decide +kernel
theorem dX6_hashSpan_18 : decode cX6_hashSpan 18 = .ok (.lmul, 1) := by decide +kernel
theorem dX6_hashSpan_19 : decode cX6_hashSpan 19 = .ok (.aload_n 0, 1) := by decide +kernel
theorem dX6_hashSpan_20 : decode cX6_hashSpan 20 = .ok (.iload_n 3, 1) := by decide +kernel
theorem dX6_hashSpan_21 : decode cX6_hashSpan 21 = .ok (.iload 6, 2) := by decide +kernel
theorem dX6_hashSpan_23 : decode cX6_hashSpan 23 = .ok (.invokevirtual 199, 3) := by decide +kernel
theorem dX6_hashSpan_26 : decode cX6_hashSpan 26 = .ok (.i2l, 1) := by decide +kernel
theorem dX6_hashSpan_27 : decode cX6_hashSpan 27 = .ok (.ladd, 1) := by decide +kernel
theorem dX6_hashSpan_28 : decode cX6_hashSpan 28 = .ok (.lstore 4, 2) := by decide +kernel
theorem dX6_hashSpan_30 : decode cX6_hashSpan 30 = .ok (.iinc 6 1, 3) := by decide +kernel
theorem dX6_hashSpan_33 : decode cX6_hashSpan 33 = .ok (.goto (-27), 3) := by decide +kernel
theorem dX6_hashSpan_36 : decode cX6_hashSpan 36 = .ok (.aload_n 0, 1) := by decide +kernel
theorem dX6_hashSpan_37 : decode cX6_hashSpan 37 = .ok (.getfield 10, 3) := by decide +kernel
theorem dX6_hashSpan_40 : decode cX6_hashSpan 40 = .ok (.getfield 94, 3) := by decide +kernel
theorem dX6_hashSpan_43 : decode cX6_hashSpan 43 = .ok (.iload_n 3, 1) := by decide +kernel
theorem dX6_hashSpan_44 : decode cX6_hashSpan 44 = .ok (.invokevirtual 202, 3) := by decide +kernel
theorem dX6_hashSpan_47 : decode cX6_hashSpan 47 = .ok (.istore 6, 2) := by decide +kernel
theorem dX6_hashSpan_49 : decode cX6_hashSpan 49 = .ok (.iconst 0, 1) := by decide +kernel
theorem dX6_hashSpan_50 : decode cX6_hashSpan 50 = .ok (.istore 7, 2) := by decide +kernel
theorem dX6_hashSpan_52 : decode cX6_hashSpan 52 = .ok (.iload 7, 2) := by decide +kernel
theorem dX6_hashSpan_54 : decode cX6_hashSpan 54 = .ok (.iload 6, 2) := by decide +kernel
theorem dX6_hashSpan_56 : decode cX6_hashSpan 56 = .ok (.if_icmp .ge 26, 3) := by decide +kernel
theorem dX6_hashSpan_59 : decode cX6_hashSpan 59 = .ok (.ldc2_w 175, 3) := by decide +kernel
theorem dX6_hashSpan_62 : decode cX6_hashSpan 62 = .ok (.lload 4, 2) := by decide +kernel
theorem dX6_hashSpan_64 : decode cX6_hashSpan 64 = .ok (.lmul, 1) := by decide +kernel
theorem dX6_hashSpan_65 : decode cX6_hashSpan 65 = .ok (.aload_n 0, 1) := by decide +kernel
theorem dX6_hashSpan_66 : decode cX6_hashSpan 66 = .ok (.iload_n 3, 1) := by decide +kernel
theorem dX6_hashSpan_67 : decode cX6_hashSpan 67 = .ok (.iload 7, 2) := by decide +kernel
theorem dX6_hashSpan_69 : decode cX6_hashSpan 69 = .ok (.invokevirtual 205, 3) := by decide +kernel
theorem dX6_hashSpan_72 : decode cX6_hashSpan 72 = .ok (.i2l, 1) := by decide +kernel
theorem dX6_hashSpan_73 : decode cX6_hashSpan 73 = .ok (.ladd, 1) := by decide +kernel
theorem dX6_hashSpan_74 : decode cX6_hashSpan 74 = .ok (.lstore 4, 2) := by decide +kernel
theorem dX6_hashSpan_76 : decode cX6_hashSpan 76 = .ok (.iinc 7 1, 3) := by decide +kernel
theorem dX6_hashSpan_79 : decode cX6_hashSpan 79 = .ok (.goto (-27), 3) := by decide +kernel
theorem dX6_hashSpan_82 : decode cX6_hashSpan 82 = .ok (.lload 4, 2) := by decide +kernel
theorem dX6_hashSpan_84 : decode cX6_hashSpan 84 = .ok (.lreturn, 1) := by decide +kernel
theorem dX6_hashEntry_0 : decode cX6_hashEntry 0 = .ok (.ldc2_w 175, 3) := by decide +kernel
theorem dX6_hashEntry_3 : decode cX6_hashEntry 3 = .ok (.lload_n 1, 1) := by decide +kernel
theorem dX6_hashEntry_4 : decode cX6_hashEntry 4 = .ok (.lmul, 1) := by decide +kernel
theorem dX6_hashEntry_5 : decode cX6_hashEntry 5 = .ok (.aload_n 0, 1) := by decide +kernel
theorem dX6_hashEntry_6 : decode cX6_hashEntry 6 = .ok (.getfield 10, 3) := by decide +kernel
theorem dX6_hashEntry_9 : decode cX6_hashEntry 9 = .ok (.getfield 103, 3) := by decide +kernel
theorem dX6_hashEntry_12 : decode cX6_hashEntry 12 = .ok (.iload_n 3, 1) := by decide +kernel
theorem dX6_hashEntry_13 : decode cX6_hashEntry 13 = .ok (.invokevirtual 116, 3) := by decide +kernel
theorem dX6_hashEntry_16 : decode cX6_hashEntry 16 = .ok (.i2l, 1) := by decide +kernel
theorem dX6_hashEntry_17 : decode cX6_hashEntry 17 = .ok (.ladd, 1) := by decide +kernel
theorem dX6_hashEntry_18 : decode cX6_hashEntry 18 = .ok (.lstore 4, 2) := by decide +kernel
theorem dX6_hashEntry_20 : decode cX6_hashEntry 20 = .ok (.ldc2_w 175, 3) := by decide +kernel
theorem dX6_hashEntry_23 : decode cX6_hashEntry 23 = .ok (.lload 4, 2) := by decide +kernel
theorem dX6_hashEntry_25 : decode cX6_hashEntry 25 = .ok (.lmul, 1) := by decide +kernel
theorem dX6_hashEntry_26 : decode cX6_hashEntry 26 = .ok (.aload_n 0, 1) := by decide +kernel
theorem dX6_hashEntry_27 : decode cX6_hashEntry 27 = .ok (.getfield 10, 3) := by decide +kernel
theorem dX6_hashEntry_30 : decode cX6_hashEntry 30 = .ok (.getfield 103, 3) := by decide +kernel
theorem dX6_hashEntry_33 : decode cX6_hashEntry 33 = .ok (.iload_n 3, 1) := by decide +kernel
theorem dX6_hashEntry_34 : decode cX6_hashEntry 34 = .ok (.invokevirtual 119, 3) := by decide +kernel
theorem dX6_hashEntry_37 : decode cX6_hashEntry 37 = .ok (.i2l, 1) := by decide +kernel
theorem dX6_hashEntry_38 : decode cX6_hashEntry 38 = .ok (.ladd, 1) := by decide +kernel
theorem dX6_hashEntry_39 : decode cX6_hashEntry 39 = .ok (.lstore 4, 2) := by decide +kernel
theorem dX6_hashEntry_41 : decode cX6_hashEntry 41 = .ok (.ldc2_w 175, 3) := by decide +kernel
theorem dX6_hashEntry_44 : decode cX6_hashEntry 44 = .ok (.lload 4, 2) := by decide +kernel
theorem dX6_hashEntry_46 : decode cX6_hashEntry 46 = .ok (.lmul, 1) := by decide +kernel
theorem dX6_hashEntry_47 : decode cX6_hashEntry 47 = .ok (.aload_n 0, 1) := by decide +kernel
theorem dX6_hashEntry_48 : decode cX6_hashEntry 48 = .ok (.getfield 10, 3) := by decide +kernel
theorem dX6_hashEntry_51 : decode cX6_hashEntry 51 = .ok (.getfield 103, 3) := by decide +kernel
theorem dX6_hashEntry_54 : decode cX6_hashEntry 54 = .ok (.iload_n 3, 1) := by decide +kernel
theorem dX6_hashEntry_55 : decode cX6_hashEntry 55 = .ok (.invokevirtual 122, 3) := by decide +kernel
theorem dX6_hashEntry_58 : decode cX6_hashEntry 58 = .ok (.i2l, 1) := by decide +kernel
theorem dX6_hashEntry_59 : decode cX6_hashEntry 59 = .ok (.ladd, 1) := by decide +kernel
theorem dX6_hashEntry_60 : decode cX6_hashEntry 60 = .ok (.lstore 4, 2) := by decide +kernel
theorem dX6_hashEntry_62 : decode cX6_hashEntry 62 = .ok (.aload_n 0, 1) := by decide +kernel
theorem dX6_hashEntry_63 : decode cX6_hashEntry 63 = .ok (.iload_n 3, 1) := by decide +kernel
theorem dX6_hashEntry_64 : decode cX6_hashEntry 64 = .ok (.invokevirtual 125, 3) := by decide +kernel
theorem dX6_hashEntry_67 : decode cX6_hashEntry 67 = .ok (.iconst 0, 1) := by decide +kernel
theorem dX6_hashEntry_68 : decode cX6_hashEntry 68 = .ok (.istore 6, 2) := by decide +kernel
theorem dX6_hashEntry_70 : decode cX6_hashEntry 70 = .ok (.iload 6, 2) := by decide +kernel
theorem dX6_hashEntry_72 : decode cX6_hashEntry 72 = .ok (.aload_n 0, 1) := by decide +kernel
theorem dX6_hashEntry_73 : decode cX6_hashEntry 73 = .ok (.getfield 36, 3) := by decide +kernel
theorem dX6_hashEntry_76 : decode cX6_hashEntry 76 = .ok (.invokevirtual 129, 3) := by decide +kernel
theorem dX6_hashEntry_79 : decode cX6_hashEntry 79 = .ok (.if_icmp .ge 28, 3) := by decide +kernel
theorem dX6_hashEntry_82 : decode cX6_hashEntry 82 = .ok (.ldc2_w 175, 3) := by decide +kernel
theorem dX6_hashEntry_85 : decode cX6_hashEntry 85 = .ok (.lload 4, 2) := by decide +kernel
theorem dX6_hashEntry_87 : decode cX6_hashEntry 87 = .ok (.lmul, 1) := by decide +kernel
theorem dX6_hashEntry_88 : decode cX6_hashEntry 88 = .ok (.aload_n 0, 1) := by decide +kernel
theorem dX6_hashEntry_89 : decode cX6_hashEntry 89 = .ok (.getfield 36, 3) := by decide +kernel
theorem dX6_hashEntry_92 : decode cX6_hashEntry 92 = .ok (.iload 6, 2) := by decide +kernel
theorem dX6_hashEntry_94 : decode cX6_hashEntry 94 = .ok (.invokevirtual 132, 3) := by decide +kernel
theorem dX6_hashEntry_97 : decode cX6_hashEntry 97 = .ok (.i2l, 1) := by decide +kernel
theorem dX6_hashEntry_98 : decode cX6_hashEntry 98 = .ok (.ladd, 1) := by decide +kernel
theorem dX6_hashEntry_99 : decode cX6_hashEntry 99 = .ok (.lstore 4, 2) := by decide +kernel
theorem dX6_hashEntry_101 : decode cX6_hashEntry 101 = .ok (.iinc 6 1, 3) := by decide +kernel
theorem dX6_hashEntry_104 : decode cX6_hashEntry 104 = .ok (.goto (-34), 3) := by decide +kernel
theorem dX6_hashEntry_107 : decode cX6_hashEntry 107 = .ok (.lload 4, 2) := by decide +kernel
theorem dX6_hashEntry_109 : decode cX6_hashEntry 109 = .ok (.lreturn, 1) := by decide +kernel
theorem dX6_writeLine_0 : decode cX6_writeLine 0 = .ok (.aload_n 0, 1) := by decide +kernel
theorem dX6_writeLine_1 : decode cX6_writeLine 1 = .ok (.getfield 36, 3) := by decide +kernel
theorem dX6_writeLine_4 : decode cX6_writeLine 4 = .ok (.iconst 0, 1) := by decide +kernel
theorem dX6_writeLine_5 : decode cX6_writeLine 5 = .ok (.invokevirtual 208, 3) := by decide +kernel
theorem dX6_writeLine_8 : decode cX6_writeLine 8 = .ok (.aload_n 0, 1) := by decide +kernel
theorem dX6_writeLine_9 : decode cX6_writeLine 9 = .ok (.getfield 36, 3) := by decide +kernel
theorem dX6_writeLine_12 : decode cX6_writeLine 12 = .ok (.aload_n 0, 1) := by decide +kernel
theorem dX6_writeLine_13 : decode cX6_writeLine 13 = .ok (.getfield 10, 3) := by decide +kernel
theorem dX6_writeLine_16 : decode cX6_writeLine 16 = .ok (.getfield 103, 3) := by decide +kernel
theorem dX6_writeLine_19 : decode cX6_writeLine 19 = .ok (.iload_n 1, 1) := by decide +kernel
theorem dX6_writeLine_20 : decode cX6_writeLine 20 = .ok (.invokevirtual 116, 3) := by decide +kernel
theorem dX6_writeLine_23 : decode cX6_writeLine 23 = .ok (.invokevirtual 211, 3) := by decide +kernel
theorem dX6_writeLine_26 : decode cX6_writeLine 26 = .ok (.pop, 1) := by decide +kernel
theorem dX6_writeLine_27 : decode cX6_writeLine 27 = .ok (.aload_n 0, 1) := by decide +kernel
theorem dX6_writeLine_28 : decode cX6_writeLine 28 = .ok (.getfield 36, 3) := by decide +kernel
theorem dX6_writeLine_31 : decode cX6_writeLine 31 = .ok (.bipush 32, 2) := by decide +kernel
theorem dX6_writeLine_33 : decode cX6_writeLine 33 = .ok (.invokevirtual 214, 3) := by decide +kernel
theorem dX6_writeLine_36 : decode cX6_writeLine 36 = .ok (.pop, 1) := by decide +kernel
theorem dX6_writeLine_37 : decode cX6_writeLine 37 = .ok (.aload_n 0, 1) := by decide +kernel
theorem dX6_writeLine_38 : decode cX6_writeLine 38 = .ok (.getfield 36, 3) := by decide +kernel
theorem dX6_writeLine_41 : decode cX6_writeLine 41 = .ok (.aload_n 0, 1) := by decide +kernel
theorem dX6_writeLine_42 : decode cX6_writeLine 42 = .ok (.getfield 10, 3) := by decide +kernel
theorem dX6_writeLine_45 : decode cX6_writeLine 45 = .ok (.getfield 103, 3) := by decide +kernel
theorem dX6_writeLine_48 : decode cX6_writeLine 48 = .ok (.iload_n 1, 1) := by decide +kernel
theorem dX6_writeLine_49 : decode cX6_writeLine 49 = .ok (.invokevirtual 119, 3) := by decide +kernel
theorem dX6_writeLine_52 : decode cX6_writeLine 52 = .ok (.invokestatic 217, 3) := by decide +kernel
theorem dX6_writeLine_55 : decode cX6_writeLine 55 = .ok (.invokevirtual 221, 3) := by decide +kernel
theorem dX6_writeLine_58 : decode cX6_writeLine 58 = .ok (.pop, 1) := by decide +kernel
theorem dX6_writeLine_59 : decode cX6_writeLine 59 = .ok (.aload_n 0, 1) := by decide +kernel
theorem dX6_writeLine_60 : decode cX6_writeLine 60 = .ok (.getfield 36, 3) := by decide +kernel
theorem dX6_writeLine_63 : decode cX6_writeLine 63 = .ok (.bipush 32, 2) := by decide +kernel
theorem dX6_writeLine_65 : decode cX6_writeLine 65 = .ok (.invokevirtual 214, 3) := by decide +kernel
theorem dX6_writeLine_68 : decode cX6_writeLine 68 = .ok (.pop, 1) := by decide +kernel
theorem dX6_writeLine_69 : decode cX6_writeLine 69 = .ok (.aload_n 0, 1) := by decide +kernel
theorem dX6_writeLine_70 : decode cX6_writeLine 70 = .ok (.getfield 36, 3) := by decide +kernel
theorem dX6_writeLine_73 : decode cX6_writeLine 73 = .ok (.aload_n 0, 1) := by decide +kernel
theorem dX6_writeLine_74 : decode cX6_writeLine 74 = .ok (.getfield 10, 3) := by decide +kernel
theorem dX6_writeLine_77 : decode cX6_writeLine 77 = .ok (.getfield 103, 3) := by decide +kernel
theorem dX6_writeLine_80 : decode cX6_writeLine 80 = .ok (.iload_n 1, 1) := by decide +kernel
theorem dX6_writeLine_81 : decode cX6_writeLine 81 = .ok (.invokevirtual 122, 3) := by decide +kernel
theorem dX6_writeLine_84 : decode cX6_writeLine 84 = .ok (.invokevirtual 211, 3) := by decide +kernel
theorem dX6_writeLine_87 : decode cX6_writeLine 87 = .ok (.pop, 1) := by decide +kernel
theorem dX6_writeLine_88 : decode cX6_writeLine 88 = .ok (.return_, 1) := by decide +kernel
theorem dX6_overdueAfter_0 : decode cX6_overdueAfter 0 = .ok (.aload_n 0, 1) := by decide +kernel
theorem dX6_overdueAfter_1 : decode cX6_overdueAfter 1 = .ok (.getfield 16, 3) := by decide +kernel
theorem dX6_overdueAfter_4 : decode cX6_overdueAfter 4 = .ok (.aload_n 0, 1) := by decide +kernel
theorem dX6_overdueAfter_5 : decode cX6_overdueAfter 5 = .ok (.getfield 10, 3) := by decide +kernel
theorem dX6_overdueAfter_8 : decode cX6_overdueAfter 8 = .ok (.invokevirtual 142, 3) := by decide +kernel
theorem dX6_overdueAfter_11 : decode cX6_overdueAfter 11 = .ok (.aload_n 0, 1) := by decide +kernel
theorem dX6_overdueAfter_12 : decode cX6_overdueAfter 12 = .ok (.getfield 16, 3) := by decide +kernel
theorem dX6_overdueAfter_15 : decode cX6_overdueAfter 15 = .ok (.iload_n 2, 1) := by decide +kernel
theorem dX6_overdueAfter_16 : decode cX6_overdueAfter 16 = .ok (.putfield 148, 3) := by decide +kernel
theorem dX6_overdueAfter_19 : decode cX6_overdueAfter 19 = .ok (.iconst 0, 1) := by decide +kernel
theorem dX6_overdueAfter_20 : decode cX6_overdueAfter 20 = .ok (.istore_n 3, 1) := by decide +kernel
theorem dX6_overdueAfter_21 : decode cX6_overdueAfter 21 = .ok (.iload_n 3, 1) := by decide +kernel
theorem dX6_overdueAfter_22 : decode cX6_overdueAfter 22 = .ok (.iload_n 1, 1) := by decide +kernel
theorem dX6_overdueAfter_23 : decode cX6_overdueAfter 23 = .ok (.if_icmp .ge 17, 3) := by decide +kernel
theorem dX6_overdueAfter_26 : decode cX6_overdueAfter 26 = .ok (.aload_n 0, 1) := by decide +kernel
theorem dX6_overdueAfter_27 : decode cX6_overdueAfter 27 = .ok (.getfield 16, 3) := by decide +kernel
theorem dX6_overdueAfter_30 : decode cX6_overdueAfter 30 = .ok (.invokevirtual 145, 3) := by decide +kernel
theorem dX6_overdueAfter_33 : decode cX6_overdueAfter 33 = .ok (.pop, 1) := by decide +kernel
theorem dX6_overdueAfter_34 : decode cX6_overdueAfter 34 = .ok (.iinc 3 1, 3) := by decide +kernel
theorem dX6_overdueAfter_37 : decode cX6_overdueAfter 37 = .ok (.goto (-16), 3) := by decide +kernel
theorem dX6_overdueAfter_40 : decode cX6_overdueAfter 40 = .ok (.aload_n 0, 1) := by decide +kernel
theorem dX6_overdueAfter_41 : decode cX6_overdueAfter 41 = .ok (.getfield 16, 3) := by decide +kernel
theorem dX6_overdueAfter_44 : decode cX6_overdueAfter 44 = .ok (.invokevirtual 136, 3) := by decide +kernel
theorem dX6_overdueAfter_47 : decode cX6_overdueAfter 47 = .ok (.ireturn, 1) := by decide +kernel
theorem dX6_doCommand_0 : decode cX6_doCommand 0 = .ok (.iload_n 1, 1) := by decide +kernel
theorem dX6_doCommand_1 : decode cX6_doCommand 1 = .ok (.ifCond .lt 9, 3) := by decide +kernel
theorem dX6_doCommand_4 : decode cX6_doCommand 4 = .ok (.iload_n 1, 1) := by decide +kernel
theorem dX6_doCommand_5 : decode cX6_doCommand 5 = .ok (.bipush 16, 2) := by decide +kernel
theorem dX6_doCommand_7 : decode cX6_doCommand 7 = .ok (.if_icmp .lt 5, 3) := by decide +kernel
theorem dX6_doCommand_10 : decode cX6_doCommand 10 = .ok (.iconst (-1), 1) := by decide +kernel
theorem dX6_doCommand_11 : decode cX6_doCommand 11 = .ok (.ireturn, 1) := by decide +kernel
theorem dX6_doCommand_12 : decode cX6_doCommand 12 = .ok (.aload_n 0, 1) := by decide +kernel
theorem dX6_doCommand_13 : decode cX6_doCommand 13 = .ok (.getfield 29, 3) := by decide +kernel
theorem dX6_doCommand_16 : decode cX6_doCommand 16 = .ok (.getfield 224, 3) := by decide +kernel
theorem dX6_doCommand_19 : decode cX6_doCommand 19 = .ok (.iload_n 1, 1) := by decide +kernel
theorem dX6_doCommand_20 : decode cX6_doCommand 20 = .ok (.iaload, 1) := by decide +kernel
theorem dX6_doCommand_21 : decode cX6_doCommand 21 = .ok (.istore_n 2, 1) := by decide +kernel
theorem dX6_doCommand_22 : decode cX6_doCommand 22 = .ok (.aload_n 0, 1) := by decide +kernel
theorem dX6_doCommand_23 : decode cX6_doCommand 23 = .ok (.getfield 29, 3) := by decide +kernel
theorem dX6_doCommand_26 : decode cX6_doCommand 26 = .ok (.getfield 227, 3) := by decide +kernel
theorem dX6_doCommand_29 : decode cX6_doCommand 29 = .ok (.iload_n 1, 1) := by decide +kernel
theorem dX6_doCommand_30 : decode cX6_doCommand 30 = .ok (.iaload, 1) := by decide +kernel
theorem dX6_doCommand_31 : decode cX6_doCommand 31 = .ok (.istore_n 3, 1) := by decide +kernel
theorem dX6_doCommand_32 : decode cX6_doCommand 32 = .ok (.aload_n 0, 1) := by decide +kernel
theorem dX6_doCommand_33 : decode cX6_doCommand 33 = .ok (.getfield 29, 3) := by decide +kernel
theorem dX6_doCommand_36 : decode cX6_doCommand 36 = .ok (.getfield 230, 3) := by decide +kernel
theorem dX6_doCommand_39 : decode cX6_doCommand 39 = .ok (.iload_n 1, 1) := by decide +kernel
theorem dX6_doCommand_40 : decode cX6_doCommand 40 = .ok (.iaload, 1) := by decide +kernel
theorem dX6_doCommand_41 : decode cX6_doCommand 41 = .ok (.tableswitch 69 1 4 #[31, 41, 50, 59], 31) := by decide +kernel
theorem dX6_doCommand_72 : decode cX6_doCommand 72 = .ok (.aload_n 0, 1) := by decide +kernel
theorem dX6_doCommand_73 : decode cX6_doCommand 73 = .ok (.getfield 10, 3) := by decide +kernel
theorem dX6_doCommand_76 : decode cX6_doCommand 76 = .ok (.iload_n 2, 1) := by decide +kernel
theorem dX6_doCommand_77 : decode cX6_doCommand 77 = .ok (.iload_n 3, 1) := by decide +kernel
theorem dX6_doCommand_78 : decode cX6_doCommand 78 = .ok (.invokevirtual 67, 3) := by decide +kernel
theorem dX6_doCommand_81 : decode cX6_doCommand 81 = .ok (.ireturn, 1) := by decide +kernel
theorem dX6_doCommand_82 : decode cX6_doCommand 82 = .ok (.aload_n 0, 1) := by decide +kernel
theorem dX6_doCommand_83 : decode cX6_doCommand 83 = .ok (.getfield 10, 3) := by decide +kernel
theorem dX6_doCommand_86 : decode cX6_doCommand 86 = .ok (.iload_n 2, 1) := by decide +kernel
theorem dX6_doCommand_87 : decode cX6_doCommand 87 = .ok (.invokevirtual 70, 3) := by decide +kernel
theorem dX6_doCommand_90 : decode cX6_doCommand 90 = .ok (.ireturn, 1) := by decide +kernel
theorem dX6_doCommand_91 : decode cX6_doCommand 91 = .ok (.aload_n 0, 1) := by decide +kernel
theorem dX6_doCommand_92 : decode cX6_doCommand 92 = .ok (.getfield 10, 3) := by decide +kernel
theorem dX6_doCommand_95 : decode cX6_doCommand 95 = .ok (.iload_n 2, 1) := by decide +kernel
theorem dX6_doCommand_96 : decode cX6_doCommand 96 = .ok (.invokevirtual 61, 3) := by decide +kernel
theorem dX6_doCommand_99 : decode cX6_doCommand 99 = .ok (.ireturn, 1) := by decide +kernel
theorem dX6_doCommand_100 : decode cX6_doCommand 100 = .ok (.aload_n 0, 1) := by decide +kernel
theorem dX6_doCommand_101 : decode cX6_doCommand 101 = .ok (.getfield 10, 3) := by decide +kernel
theorem dX6_doCommand_104 : decode cX6_doCommand 104 = .ok (.iload_n 2, 1) := by decide +kernel
theorem dX6_doCommand_105 : decode cX6_doCommand 105 = .ok (.iload_n 3, 1) := by decide +kernel
theorem dX6_doCommand_106 : decode cX6_doCommand 106 = .ok (.invokevirtual 58, 3) := by decide +kernel
theorem dX6_doCommand_109 : decode cX6_doCommand 109 = .ok (.ireturn, 1) := by decide +kernel
theorem dX6_doCommand_110 : decode cX6_doCommand 110 = .ok (.aload_n 0, 1) := by decide +kernel
theorem dX6_doCommand_111 : decode cX6_doCommand 111 = .ok (.getfield 10, 3) := by decide +kernel
theorem dX6_doCommand_114 : decode cX6_doCommand 114 = .ok (.iload_n 2, 1) := by decide +kernel
theorem dX6_doCommand_115 : decode cX6_doCommand 115 = .ok (.invokevirtual 52, 3) := by decide +kernel
theorem dX6_doCommand_118 : decode cX6_doCommand 118 = .ok (.ireturn, 1) := by decide +kernel
theorem dX6_isSpan_0 : decode cX6_isSpan 0 = .ok (.iload_n 0, 1) := by decide +kernel
theorem dX6_isSpan_1 : decode cX6_isSpan 1 = .ok (.ifCond .lt 13, 3) := by decide +kernel
theorem dX6_isSpan_4 : decode cX6_isSpan 4 = .ok (.iload_n 0, 1) := by decide +kernel
theorem dX6_isSpan_5 : decode cX6_isSpan 5 = .ok (.bipush 8, 2) := by decide +kernel
theorem dX6_isSpan_7 : decode cX6_isSpan 7 = .ok (.if_icmp .ge 7, 3) := by decide +kernel
theorem dX6_isSpan_10 : decode cX6_isSpan 10 = .ok (.iconst 1, 1) := by decide +kernel
theorem dX6_isSpan_11 : decode cX6_isSpan 11 = .ok (.goto 4, 3) := by decide +kernel
theorem dX6_isSpan_14 : decode cX6_isSpan 14 = .ok (.iconst 0, 1) := by decide +kernel
theorem dX6_isSpan_15 : decode cX6_isSpan 15 = .ok (.ireturn, 1) := by decide +kernel
theorem dX6_isSetting_0 : decode cX6_isSetting 0 = .ok (.iload_n 0, 1) := by decide +kernel
theorem dX6_isSetting_1 : decode cX6_isSetting 1 = .ok (.ifCond .lt 12, 3) := by decide +kernel
theorem dX6_isSetting_4 : decode cX6_isSetting 4 = .ok (.iload_n 0, 1) := by decide +kernel
theorem dX6_isSetting_5 : decode cX6_isSetting 5 = .ok (.iconst 5, 1) := by decide +kernel
theorem dX6_isSetting_6 : decode cX6_isSetting 6 = .ok (.if_icmp .ge 7, 3) := by decide +kernel
theorem dX6_isSetting_9 : decode cX6_isSetting 9 = .ok (.iconst 1, 1) := by decide +kernel
theorem dX6_isSetting_10 : decode cX6_isSetting 10 = .ok (.goto 4, 3) := by decide +kernel
theorem dX6_isSetting_13 : decode cX6_isSetting 13 = .ok (.iconst 0, 1) := by decide +kernel
theorem dX6_isSetting_14 : decode cX6_isSetting 14 = .ok (.ireturn, 1) := by decide +kernel
theorem dX6_wordOf_0 : decode cX6_wordOf 0 = .ok (.iload_n 0, 1) := by decide +kernel
theorem dX6_wordOf_1 : decode cX6_wordOf 1 = .ok (.tableswitch 50 1 5 #[35, 38, 41, 44, 47], 35) := by decide +kernel
theorem dX6_wordOf_36 : decode cX6_wordOf 36 = .ok (.ldc 233, 2) := by decide +kernel
theorem dX6_wordOf_38 : decode cX6_wordOf 38 = .ok (.areturn, 1) := by decide +kernel
theorem dX6_wordOf_39 : decode cX6_wordOf 39 = .ok (.ldc 235, 2) := by decide +kernel
theorem dX6_wordOf_41 : decode cX6_wordOf 41 = .ok (.areturn, 1) := by decide +kernel
theorem dX6_wordOf_42 : decode cX6_wordOf 42 = .ok (.ldc 237, 2) := by decide +kernel
theorem dX6_wordOf_44 : decode cX6_wordOf 44 = .ok (.areturn, 1) := by decide +kernel
theorem dX6_wordOf_45 : decode cX6_wordOf 45 = .ok (.ldc 239, 2) := by decide +kernel
theorem dX6_wordOf_47 : decode cX6_wordOf 47 = .ok (.areturn, 1) := by decide +kernel
theorem dX6_wordOf_48 : decode cX6_wordOf 48 = .ok (.ldc 241, 2) := by decide +kernel
theorem dX6_wordOf_50 : decode cX6_wordOf 50 = .ok (.areturn, 1) := by decide +kernel
theorem dX6_wordOf_51 : decode cX6_wordOf 51 = .ok (.ldc 243, 2) := by decide +kernel
theorem dX6_wordOf_53 : decode cX6_wordOf 53 = .ok (.areturn, 1) := by decide +kernel
end
section
theorem dJ5_init_d00df_0 : decode cJ5_init_d00df 0 = .ok (.aload_n 0, 1) := by decide +kernel
theorem dJ5_init_d00df_1 : decode cJ5_init_d00df 1 = .ok (.invokespecial 3, 3) := by decide +kernel
theorem dJ5_init_d00df_4 : decode cJ5_init_d00df 4 = .ok (.getstatic 18, 3) := by decide +kernel
theorem dJ5_init_d00df_7 : decode cJ5_init_d00df 7 = .ok (.ifCond .eq 18, 3) := by decide +kernel
theorem dJ5_init_d00df_10 : decode cJ5_init_d00df 10 = .ok (.aload_n 0, 1) := by decide +kernel
theorem dJ5_init_d00df_11 : decode cJ5_init_d00df 11 = .ok (.iload_n 1, 1) := by decide +kernel
theorem dJ5_init_d00df_12 : decode cJ5_init_d00df 12 = .ok (.newarray .byte, 2) := by decide +kernel
theorem dJ5_init_d00df_14 : decode cJ5_init_d00df 14 = .ok (.putfield 15, 3) := by decide +kernel
theorem dJ5_init_d00df_17 : decode cJ5_init_d00df 17 = .ok (.aload_n 0, 1) := by decide +kernel
theorem dJ5_init_d00df_18 : decode cJ5_init_d00df 18 = .ok (.iconst 0, 1) := by decide +kernel
theorem dJ5_init_d00df_19 : decode cJ5_init_d00df 19 = .ok (.putfield 22, 3) := by decide +kernel
theorem dJ5_init_d00df_22 : decode cJ5_init_d00df 22 = .ok (.goto 16, 3) := by decide +kernel
theorem dJ5_init_d00df_25 : decode cJ5_init_d00df 25 = .ok (.aload_n 0, 1) := by decide +kernel
theorem dJ5_init_d00df_26 : decode cJ5_init_d00df 26 = .ok (.iload_n 1, 1) := by decide +kernel
theorem dJ5_init_d00df_27 : decode cJ5_init_d00df 27 = .ok (.invokestatic 26, 3) := by decide +kernel
theorem dJ5_init_d00df_30 : decode cJ5_init_d00df 30 = .ok (.putfield 15, 3) := by decide +kernel
theorem dJ5_init_d00df_33 : decode cJ5_init_d00df 33 = .ok (.aload_n 0, 1) := by decide +kernel
theorem dJ5_init_d00df_34 : decode cJ5_init_d00df 34 = .ok (.iconst 1, 1) := by decide +kernel
theorem dJ5_init_d00df_35 : decode cJ5_init_d00df 35 = .ok (.putfield 22, 3) := by decide +kernel
theorem dJ5_init_d00df_38 : decode cJ5_init_d00df 38 = .ok (.return_, 1) := by decide +kernel
theorem dJ5_length_8abf5_0 : decode cJ5_length_8abf5 0 = .ok (.aload_n 0, 1) := by decide +kernel
theorem dJ5_length_8abf5_1 : decode cJ5_length_8abf5 1 = .ok (.getfield 79, 3) := by decide +kernel
theorem dJ5_length_8abf5_4 : decode cJ5_length_8abf5 4 = .ok (.ireturn, 1) := by decide +kernel
theorem dJ5_ensureCapacityInternal_d00df_0 : decode cJ5_ensureCapacityInternal_d00df 0 = .ok (.aload_n 0, 1) := by decide +kernel
theorem dJ5_ensureCapacityInternal_d00df_1 : decode cJ5_ensureCapacityInternal_d00df 1 = .ok (.getfield 15, 3) := by decide +kernel
theorem dJ5_ensureCapacityInternal_d00df_4 : decode cJ5_ensureCapacityInternal_d00df 4 = .ok (.arraylength, 1) := by decide +kernel
theorem dJ5_ensureCapacityInternal_d00df_5 : decode cJ5_ensureCapacityInternal_d00df 5 = .ok (.aload_n 0, 1) := by decide +kernel
theorem dJ5_ensureCapacityInternal_d00df_6 : decode cJ5_ensureCapacityInternal_d00df 6 = .ok (.getfield 22, 3) := by decide +kernel
theorem dJ5_ensureCapacityInternal_d00df_9 : decode cJ5_ensureCapacityInternal_d00df 9 = .ok (.ishr, 1) := by decide +kernel
theorem dJ5_ensureCapacityInternal_d00df_10 : decode cJ5_ensureCapacityInternal_d00df 10 = .ok (.istore_n 2, 1) := by decide +kernel
theorem dJ5_ensureCapacityInternal_d00df_11 : decode cJ5_ensureCapacityInternal_d00df 11 = .ok (.iload_n 1, 1) := by decide +kernel
theorem dJ5_ensureCapacityInternal_d00df_12 : decode cJ5_ensureCapacityInternal_d00df 12 = .ok (.iload_n 2, 1) := by decide +kernel
theorem dJ5_ensureCapacityInternal_d00df_13 : decode cJ5_ensureCapacityInternal_d00df 13 = .ok (.isub, 1) := by decide +kernel
theorem dJ5_ensureCapacityInternal_d00df_14 : decode cJ5_ensureCapacityInternal_d00df 14 = .ok (.ifCond .le 24, 3) := by decide +kernel
theorem dJ5_ensureCapacityInternal_d00df_17 : decode cJ5_ensureCapacityInternal_d00df 17 = .ok (.aload_n 0, 1) := by decide +kernel
theorem dJ5_ensureCapacityInternal_d00df_18 : decode cJ5_ensureCapacityInternal_d00df 18 = .ok (.aload_n 0, 1) := by decide +kernel
theorem dJ5_ensureCapacityInternal_d00df_19 : decode cJ5_ensureCapacityInternal_d00df 19 = .ok (.getfield 15, 3) := by decide +kernel
theorem dJ5_ensureCapacityInternal_d00df_22 : decode cJ5_ensureCapacityInternal_d00df 22 = .ok (.aload_n 0, 1) := by decide +kernel
theorem dJ5_ensureCapacityInternal_d00df_23 : decode cJ5_ensureCapacityInternal_d00df 23 = .ok (.iload_n 1, 1) := by decide +kernel
theorem dJ5_ensureCapacityInternal_d00df_24 : decode cJ5_ensureCapacityInternal_d00df 24 = .ok (.invokevirtual 104, 3) := by decide +kernel
theorem dJ5_ensureCapacityInternal_d00df_27 : decode cJ5_ensureCapacityInternal_d00df 27 = .ok (.aload_n 0, 1) := by decide +kernel
theorem dJ5_ensureCapacityInternal_d00df_28 : decode cJ5_ensureCapacityInternal_d00df 28 = .ok (.getfield 22, 3) := by decide +kernel
theorem dJ5_ensureCapacityInternal_d00df_31 : decode cJ5_ensureCapacityInternal_d00df 31 = .ok (.ishl, 1) := by decide +kernel
theorem dJ5_ensureCapacityInternal_d00df_32 : decode cJ5_ensureCapacityInternal_d00df 32 = .ok (.invokestatic 108, 3) := by decide +kernel
theorem dJ5_ensureCapacityInternal_d00df_35 : decode cJ5_ensureCapacityInternal_d00df 35 = .ok (.putfield 15, 3) := by decide +kernel
theorem dJ5_ensureCapacityInternal_d00df_38 : decode cJ5_ensureCapacityInternal_d00df 38 = .ok (.return_, 1) := by decide +kernel
theorem dJ5_newCapacity_0f7a4_0 : decode cJ5_newCapacity_0f7a4 0 = .ok (.aload_n 0, 1) := by decide +kernel
theorem dJ5_newCapacity_0f7a4_1 : decode cJ5_newCapacity_0f7a4 1 = .ok (.getfield 15, 3) := by decide +kernel
theorem dJ5_newCapacity_0f7a4_4 : decode cJ5_newCapacity_0f7a4 4 = .ok (.arraylength, 1) := by decide +kernel
theorem dJ5_newCapacity_0f7a4_5 : decode cJ5_newCapacity_0f7a4 5 = .ok (.istore_n 2, 1) := by decide +kernel
theorem dJ5_newCapacity_0f7a4_6 : decode cJ5_newCapacity_0f7a4 6 = .ok (.iload_n 1, 1) := by decide +kernel
theorem dJ5_newCapacity_0f7a4_7 : decode cJ5_newCapacity_0f7a4 7 = .ok (.aload_n 0, 1) := by decide +kernel
theorem dJ5_newCapacity_0f7a4_8 : decode cJ5_newCapacity_0f7a4 8 = .ok (.getfield 22, 3) := by decide +kernel
theorem dJ5_newCapacity_0f7a4_11 : decode cJ5_newCapacity_0f7a4 11 = .ok (.ishl, 1) := by decide +kernel
theorem dJ5_newCapacity_0f7a4_12 : decode cJ5_newCapacity_0f7a4 12 = .ok (.istore_n 3, 1) := by decide +kernel
theorem dJ5_newCapacity_0f7a4_13 : decode cJ5_newCapacity_0f7a4 13 = .ok (.iload_n 3, 1) := by decide +kernel
theorem dJ5_newCapacity_0f7a4_14 : decode cJ5_newCapacity_0f7a4 14 = .ok (.iload_n 2, 1) := by decide +kernel
theorem dJ5_newCapacity_0f7a4_15 : decode cJ5_newCapacity_0f7a4 15 = .ok (.isub, 1) := by decide +kernel
theorem dJ5_newCapacity_0f7a4_16 : decode cJ5_newCapacity_0f7a4 16 = .ok (.istore 4, 2) := by decide +kernel
theorem dJ5_newCapacity_0f7a4_18 : decode cJ5_newCapacity_0f7a4 18 = .ok (.iload_n 2, 1) := by decide +kernel
theorem dJ5_newCapacity_0f7a4_19 : decode cJ5_newCapacity_0f7a4 19 = .ok (.iload 4, 2) := by decide +kernel
theorem dJ5_newCapacity_0f7a4_21 : decode cJ5_newCapacity_0f7a4 21 = .ok (.iload_n 2, 1) := by decide +kernel
theorem dJ5_newCapacity_0f7a4_22 : decode cJ5_newCapacity_0f7a4 22 = .ok (.iconst 2, 1) := by decide +kernel
theorem dJ5_newCapacity_0f7a4_23 : decode cJ5_newCapacity_0f7a4 23 = .ok (.aload_n 0, 1) := by decide +kernel
theorem dJ5_newCapacity_0f7a4_24 : decode cJ5_newCapacity_0f7a4 24 = .ok (.getfield 22, 3) := by decide +kernel
theorem dJ5_newCapacity_0f7a4_27 : decode cJ5_newCapacity_0f7a4 27 = .ok (.ishl, 1) := by decide +kernel
theorem dJ5_newCapacity_0f7a4_28 : decode cJ5_newCapacity_0f7a4 28 = .ok (.iadd, 1) := by decide +kernel
theorem dJ5_newCapacity_0f7a4_29 : decode cJ5_newCapacity_0f7a4 29 = .ok (.invokestatic 114, 3) := by decide +kernel
theorem dJ5_newCapacity_0f7a4_32 : decode cJ5_newCapacity_0f7a4 32 = .ok (.istore 5, 2) := by decide +kernel
theorem dJ5_newCapacity_0f7a4_34 : decode cJ5_newCapacity_0f7a4 34 = .ok (.iload 5, 2) := by decide +kernel
theorem dJ5_newCapacity_0f7a4_36 : decode cJ5_newCapacity_0f7a4 36 = .ok (.ldc 39, 2) := by decide +kernel
theorem dJ5_newCapacity_0f7a4_38 : decode cJ5_newCapacity_0f7a4 38 = .ok (.if_icmp .ne 13, 3) := by decide +kernel
theorem dJ5_newCapacity_0f7a4_41 : decode cJ5_newCapacity_0f7a4 41 = .ok (.new 120, 3) := by decide +kernel
theorem dJ5_newCapacity_0f7a4_44 : decode cJ5_newCapacity_0f7a4 44 = .ok (.dup, 1) := by decide +kernel
theorem dJ5_newCapacity_0f7a4_45 : decode cJ5_newCapacity_0f7a4 45 = .ok (.ldc 122, 2) := by decide +kernel
theorem dJ5_newCapacity_0f7a4_47 : decode cJ5_newCapacity_0f7a4 47 = .ok (.invokespecial 124, 3) := by decide +kernel
theorem dJ5_newCapacity_0f7a4_50 : decode cJ5_newCapacity_0f7a4 50 = .ok (.athrow, 1) := by decide +kernel
theorem dJ5_newCapacity_0f7a4_51 : decode cJ5_newCapacity_0f7a4 51 = .ok (.iload 5, 2) := by decide +kernel
theorem dJ5_newCapacity_0f7a4_53 : decode cJ5_newCapacity_0f7a4 53 = .ok (.aload_n 0, 1) := by decide +kernel
theorem dJ5_newCapacity_0f7a4_54 : decode cJ5_newCapacity_0f7a4 54 = .ok (.getfield 22, 3) := by decide +kernel
theorem dJ5_newCapacity_0f7a4_57 : decode cJ5_newCapacity_0f7a4 57 = .ok (.ishr, 1) := by decide +kernel
theorem dJ5_newCapacity_0f7a4_58 : decode cJ5_newCapacity_0f7a4 58 = .ok (.ireturn, 1) := by decide +kernel
theorem dJ5_inflate_da8c8_0 : decode cJ5_inflate_da8c8 0 = .ok (.aload_n 0, 1) := by decide +kernel
theorem dJ5_inflate_da8c8_1 : decode cJ5_inflate_da8c8 1 = .ok (.invokevirtual 83, 3) := by decide +kernel
theorem dJ5_inflate_da8c8_4 : decode cJ5_inflate_da8c8 4 = .ok (.ifCond .ne 4, 3) := by decide +kernel
theorem dJ5_inflate_da8c8_7 : decode cJ5_inflate_da8c8 7 = .ok (.return_, 1) := by decide +kernel
theorem dJ5_inflate_da8c8_8 : decode cJ5_inflate_da8c8 8 = .ok (.aload_n 0, 1) := by decide +kernel
theorem dJ5_inflate_da8c8_9 : decode cJ5_inflate_da8c8 9 = .ok (.getfield 15, 3) := by decide +kernel
theorem dJ5_inflate_da8c8_12 : decode cJ5_inflate_da8c8 12 = .ok (.arraylength, 1) := by decide +kernel
theorem dJ5_inflate_da8c8_13 : decode cJ5_inflate_da8c8 13 = .ok (.invokestatic 26, 3) := by decide +kernel
theorem dJ5_inflate_da8c8_16 : decode cJ5_inflate_da8c8 16 = .ok (.astore_n 1, 1) := by decide +kernel
theorem dJ5_inflate_da8c8_17 : decode cJ5_inflate_da8c8 17 = .ok (.aload_n 0, 1) := by decide +kernel
theorem dJ5_inflate_da8c8_18 : decode cJ5_inflate_da8c8 18 = .ok (.getfield 15, 3) := by decide +kernel
theorem dJ5_inflate_da8c8_21 : decode cJ5_inflate_da8c8 21 = .ok (.iconst 0, 1) := by decide +kernel
theorem dJ5_inflate_da8c8_22 : decode cJ5_inflate_da8c8 22 = .ok (.aload_n 1, 1) := by decide +kernel
theorem dJ5_inflate_da8c8_23 : decode cJ5_inflate_da8c8 23 = .ok (.iconst 0, 1) := by decide +kernel
theorem dJ5_inflate_da8c8_24 : decode cJ5_inflate_da8c8 24 = .ok (.aload_n 0, 1) := by decide +kernel
theorem dJ5_inflate_da8c8_25 : decode cJ5_inflate_da8c8 25 = .ok (.getfield 79, 3) := by decide +kernel
theorem dJ5_inflate_da8c8_28 : decode cJ5_inflate_da8c8 28 = .ok (.invokestatic 125, 3) := by decide +kernel
theorem dJ5_inflate_da8c8_31 : decode cJ5_inflate_da8c8 31 = .ok (.aload_n 0, 1) := by decide +kernel
theorem dJ5_inflate_da8c8_32 : decode cJ5_inflate_da8c8 32 = .ok (.aload_n 1, 1) := by decide +kernel
theorem dJ5_inflate_da8c8_33 : decode cJ5_inflate_da8c8 33 = .ok (.putfield 15, 3) := by decide +kernel
theorem dJ5_inflate_da8c8_36 : decode cJ5_inflate_da8c8 36 = .ok (.aload_n 0, 1) := by decide +kernel
theorem dJ5_inflate_da8c8_37 : decode cJ5_inflate_da8c8 37 = .ok (.iconst 1, 1) := by decide +kernel
theorem dJ5_inflate_da8c8_38 : decode cJ5_inflate_da8c8 38 = .ok (.putfield 22, 3) := by decide +kernel
theorem dJ5_inflate_da8c8_41 : decode cJ5_inflate_da8c8 41 = .ok (.return_, 1) := by decide +kernel
theorem dJ5_setLength_d00df_0 : decode cJ5_setLength_d00df 0 = .ok (.iload_n 1, 1) := by decide +kernel
theorem dJ5_setLength_d00df_1 : decode cJ5_setLength_d00df 1 = .ok (.ifCond .ge 12, 3) := by decide +kernel
theorem dJ5_setLength_d00df_4 : decode cJ5_setLength_d00df 4 = .ok (.new 129, 3) := by decide +kernel
theorem dJ5_setLength_d00df_7 : decode cJ5_setLength_d00df 7 = .ok (.dup, 1) := by decide +kernel
theorem dJ5_setLength_d00df_8 : decode cJ5_setLength_d00df 8 = .ok (.iload_n 1, 1) := by decide +kernel
theorem dJ5_setLength_d00df_9 : decode cJ5_setLength_d00df 9 = .ok (.invokespecial 131, 3) := by decide +kernel
theorem dJ5_setLength_d00df_12 : decode cJ5_setLength_d00df 12 = .ok (.athrow, 1) := by decide +kernel
theorem dJ5_setLength_d00df_13 : decode cJ5_setLength_d00df 13 = .ok (.aload_n 0, 1) := by decide +kernel
theorem dJ5_setLength_d00df_14 : decode cJ5_setLength_d00df 14 = .ok (.iload_n 1, 1) := by decide +kernel
theorem dJ5_setLength_d00df_15 : decode cJ5_setLength_d00df 15 = .ok (.invokevirtual 100, 3) := by decide +kernel
theorem dJ5_setLength_d00df_18 : decode cJ5_setLength_d00df 18 = .ok (.aload_n 0, 1) := by decide +kernel
theorem dJ5_setLength_d00df_19 : decode cJ5_setLength_d00df 19 = .ok (.getfield 79, 3) := by decide +kernel
theorem dJ5_setLength_d00df_22 : decode cJ5_setLength_d00df 22 = .ok (.iload_n 1, 1) := by decide +kernel
theorem dJ5_setLength_d00df_23 : decode cJ5_setLength_d00df 23 = .ok (.if_icmp .ge 40, 3) := by decide +kernel
theorem dJ5_setLength_d00df_26 : decode cJ5_setLength_d00df 26 = .ok (.aload_n 0, 1) := by decide +kernel
theorem dJ5_setLength_d00df_27 : decode cJ5_setLength_d00df 27 = .ok (.invokevirtual 83, 3) := by decide +kernel
theorem dJ5_setLength_d00df_30 : decode cJ5_setLength_d00df 30 = .ok (.ifCond .eq 18, 3) := by decide +kernel
theorem dJ5_setLength_d00df_33 : decode cJ5_setLength_d00df 33 = .ok (.aload_n 0, 1) := by decide +kernel
theorem dJ5_setLength_d00df_34 : decode cJ5_setLength_d00df 34 = .ok (.getfield 15, 3) := by decide +kernel
theorem dJ5_setLength_d00df_37 : decode cJ5_setLength_d00df 37 = .ok (.aload_n 0, 1) := by decide +kernel
theorem dJ5_setLength_d00df_38 : decode cJ5_setLength_d00df 38 = .ok (.getfield 79, 3) := by decide +kernel
theorem dJ5_setLength_d00df_41 : decode cJ5_setLength_d00df 41 = .ok (.iload_n 1, 1) := by decide +kernel
theorem dJ5_setLength_d00df_42 : decode cJ5_setLength_d00df 42 = .ok (.invokestatic 133, 3) := by decide +kernel
theorem dJ5_setLength_d00df_45 : decode cJ5_setLength_d00df 45 = .ok (.goto 31, 3) := by decide +kernel
theorem dJ5_setLength_d00df_48 : decode cJ5_setLength_d00df 48 = .ok (.aload_n 0, 1) := by decide +kernel
theorem dJ5_setLength_d00df_49 : decode cJ5_setLength_d00df 49 = .ok (.getfield 15, 3) := by decide +kernel
theorem dJ5_setLength_d00df_52 : decode cJ5_setLength_d00df 52 = .ok (.aload_n 0, 1) := by decide +kernel
theorem dJ5_setLength_d00df_53 : decode cJ5_setLength_d00df 53 = .ok (.getfield 79, 3) := by decide +kernel
theorem dJ5_setLength_d00df_56 : decode cJ5_setLength_d00df 56 = .ok (.iload_n 1, 1) := by decide +kernel
theorem dJ5_setLength_d00df_57 : decode cJ5_setLength_d00df 57 = .ok (.invokestatic 137, 3) := by decide +kernel
theorem dJ5_setLength_d00df_60 : decode cJ5_setLength_d00df 60 = .ok (.goto 16, 3) := by decide +kernel
theorem dJ5_setLength_d00df_63 : decode cJ5_setLength_d00df 63 = .ok (.aload_n 0, 1) := by decide +kernel
theorem dJ5_setLength_d00df_64 : decode cJ5_setLength_d00df 64 = .ok (.getfield 79, 3) := by decide +kernel
theorem dJ5_setLength_d00df_67 : decode cJ5_setLength_d00df 67 = .ok (.iload_n 1, 1) := by decide +kernel
theorem dJ5_setLength_d00df_68 : decode cJ5_setLength_d00df 68 = .ok (.if_icmp .le 8, 3) := by decide +kernel
theorem dJ5_setLength_d00df_71 : decode cJ5_setLength_d00df 71 = .ok (.aload_n 0, 1) := by decide +kernel
theorem dJ5_setLength_d00df_72 : decode cJ5_setLength_d00df 72 = .ok (.iconst 1, 1) := by decide +kernel
theorem dJ5_setLength_d00df_73 : decode cJ5_setLength_d00df 73 = .ok (.putfield 73, 3) := by decide +kernel
theorem dJ5_setLength_d00df_76 : decode cJ5_setLength_d00df 76 = .ok (.aload_n 0, 1) := by decide +kernel
theorem dJ5_setLength_d00df_77 : decode cJ5_setLength_d00df 77 = .ok (.iload_n 1, 1) := by decide +kernel
theorem dJ5_setLength_d00df_78 : decode cJ5_setLength_d00df 78 = .ok (.putfield 79, 3) := by decide +kernel
theorem dJ5_setLength_d00df_81 : decode cJ5_setLength_d00df 81 = .ok (.return_, 1) := by decide +kernel
theorem dJ5_charAt_5068e_0 : decode cJ5_charAt_5068e 0 = .ok (.aload_n 0, 1) := by decide +kernel
theorem dJ5_charAt_5068e_1 : decode cJ5_charAt_5068e 1 = .ok (.getfield 22, 3) := by decide +kernel
theorem dJ5_charAt_5068e_4 : decode cJ5_charAt_5068e 4 = .ok (.istore_n 2, 1) := by decide +kernel
theorem dJ5_charAt_5068e_5 : decode cJ5_charAt_5068e 5 = .ok (.aload_n 0, 1) := by decide +kernel
theorem dJ5_charAt_5068e_6 : decode cJ5_charAt_5068e 6 = .ok (.getfield 15, 3) := by decide +kernel
theorem dJ5_charAt_5068e_9 : decode cJ5_charAt_5068e 9 = .ok (.astore_n 3, 1) := by decide +kernel
theorem dJ5_charAt_5068e_10 : decode cJ5_charAt_5068e 10 = .ok (.aload_n 0, 1) := by decide +kernel
theorem dJ5_charAt_5068e_11 : decode cJ5_charAt_5068e 11 = .ok (.getfield 79, 3) := by decide +kernel
theorem dJ5_charAt_5068e_14 : decode cJ5_charAt_5068e 14 = .ok (.aload_n 3, 1) := by decide +kernel
theorem dJ5_charAt_5068e_15 : decode cJ5_charAt_5068e 15 = .ok (.arraylength, 1) := by decide +kernel
theorem dJ5_charAt_5068e_16 : decode cJ5_charAt_5068e 16 = .ok (.iload_n 2, 1) := by decide +kernel
theorem dJ5_charAt_5068e_17 : decode cJ5_charAt_5068e 17 = .ok (.ishr, 1) := by decide +kernel
theorem dJ5_charAt_5068e_18 : decode cJ5_charAt_5068e 18 = .ok (.invokestatic 138, 3) := by decide +kernel
theorem dJ5_charAt_5068e_21 : decode cJ5_charAt_5068e 21 = .ok (.istore 4, 2) := by decide +kernel
theorem dJ5_charAt_5068e_23 : decode cJ5_charAt_5068e 23 = .ok (.iload_n 1, 1) := by decide +kernel
theorem dJ5_charAt_5068e_24 : decode cJ5_charAt_5068e 24 = .ok (.iload 4, 2) := by decide +kernel
theorem dJ5_charAt_5068e_26 : decode cJ5_charAt_5068e 26 = .ok (.invokestatic 144, 3) := by decide +kernel
theorem dJ5_charAt_5068e_29 : decode cJ5_charAt_5068e 29 = .ok (.iload_n 2, 1) := by decide +kernel
theorem dJ5_charAt_5068e_30 : decode cJ5_charAt_5068e 30 = .ok (.ifCond .ne 12, 3) := by decide +kernel
theorem dJ5_charAt_5068e_33 : decode cJ5_charAt_5068e 33 = .ok (.aload_n 3, 1) := by decide +kernel
theorem dJ5_charAt_5068e_34 : decode cJ5_charAt_5068e 34 = .ok (.iload_n 1, 1) := by decide +kernel
theorem dJ5_charAt_5068e_35 : decode cJ5_charAt_5068e 35 = .ok (.baload, 1) := by decide +kernel
theorem dJ5_charAt_5068e_36 : decode cJ5_charAt_5068e 36 = .ok (.sipush 255, 3) := by decide +kernel
theorem dJ5_charAt_5068e_39 : decode cJ5_charAt_5068e 39 = .ok (.iand, 1) := by decide +kernel
theorem dJ5_charAt_5068e_40 : decode cJ5_charAt_5068e 40 = .ok (.i2c, 1) := by decide +kernel
theorem dJ5_charAt_5068e_41 : decode cJ5_charAt_5068e 41 = .ok (.ireturn, 1) := by decide +kernel
theorem dJ5_charAt_5068e_42 : decode cJ5_charAt_5068e 42 = .ok (.aload_n 3, 1) := by decide +kernel
theorem dJ5_charAt_5068e_43 : decode cJ5_charAt_5068e 43 = .ok (.iload_n 1, 1) := by decide +kernel
theorem dJ5_charAt_5068e_44 : decode cJ5_charAt_5068e 44 = .ok (.invokestatic 148, 3) := by decide +kernel
theorem dJ5_charAt_5068e_47 : decode cJ5_charAt_5068e 47 = .ok (.ireturn, 1) := by decide +kernel
theorem dJ5_append_cf1ce_0 : decode cJ5_append_cf1ce 0 = .ok (.aload_n 1, 1) := by decide +kernel
theorem dJ5_append_cf1ce_1 : decode cJ5_append_cf1ce 1 = .ok (.ifnonnull 8, 3) := by decide +kernel
theorem dJ5_append_cf1ce_4 : decode cJ5_append_cf1ce 4 = .ok (.aload_n 0, 1) := by decide +kernel
theorem dJ5_append_cf1ce_5 : decode cJ5_append_cf1ce 5 = .ok (.invokevirtual 204, 3) := by decide +kernel
theorem dJ5_append_cf1ce_8 : decode cJ5_append_cf1ce 8 = .ok (.areturn, 1) := by decide +kernel
theorem dJ5_append_cf1ce_9 : decode cJ5_append_cf1ce 9 = .ok (.aload_n 1, 1) := by decide +kernel
theorem dJ5_append_cf1ce_10 : decode cJ5_append_cf1ce 10 = .ok (.invokevirtual 32, 3) := by decide +kernel
theorem dJ5_append_cf1ce_13 : decode cJ5_append_cf1ce 13 = .ok (.istore_n 2, 1) := by decide +kernel
theorem dJ5_append_cf1ce_14 : decode cJ5_append_cf1ce 14 = .ok (.aload_n 0, 1) := by decide +kernel
theorem dJ5_append_cf1ce_15 : decode cJ5_append_cf1ce 15 = .ok (.aload_n 0, 1) := by decide +kernel
theorem dJ5_append_cf1ce_16 : decode cJ5_append_cf1ce 16 = .ok (.getfield 79, 3) := by decide +kernel
theorem dJ5_append_cf1ce_19 : decode cJ5_append_cf1ce 19 = .ok (.iload_n 2, 1) := by decide +kernel
theorem dJ5_append_cf1ce_20 : decode cJ5_append_cf1ce 20 = .ok (.iadd, 1) := by decide +kernel
theorem dJ5_append_cf1ce_21 : decode cJ5_append_cf1ce 21 = .ok (.invokevirtual 100, 3) := by decide +kernel
theorem dJ5_append_cf1ce_24 : decode cJ5_append_cf1ce 24 = .ok (.aload_n 0, 1) := by decide +kernel
theorem dJ5_append_cf1ce_25 : decode cJ5_append_cf1ce 25 = .ok (.aload_n 0, 1) := by decide +kernel
theorem dJ5_append_cf1ce_26 : decode cJ5_append_cf1ce 26 = .ok (.getfield 79, 3) := by decide +kernel
theorem dJ5_append_cf1ce_29 : decode cJ5_append_cf1ce 29 = .ok (.aload_n 1, 1) := by decide +kernel
theorem dJ5_append_cf1ce_30 : decode cJ5_append_cf1ce 30 = .ok (.invokevirtual 208, 3) := by decide +kernel
theorem dJ5_append_cf1ce_33 : decode cJ5_append_cf1ce 33 = .ok (.aload_n 0, 1) := by decide +kernel
theorem dJ5_append_cf1ce_34 : decode cJ5_append_cf1ce 34 = .ok (.dup, 1) := by decide +kernel
theorem dJ5_append_cf1ce_35 : decode cJ5_append_cf1ce 35 = .ok (.getfield 79, 3) := by decide +kernel
theorem dJ5_append_cf1ce_38 : decode cJ5_append_cf1ce 38 = .ok (.iload_n 2, 1) := by decide +kernel
theorem dJ5_append_cf1ce_39 : decode cJ5_append_cf1ce 39 = .ok (.iadd, 1) := by decide +kernel
theorem dJ5_append_cf1ce_40 : decode cJ5_append_cf1ce 40 = .ok (.putfield 79, 3) := by decide +kernel
theorem dJ5_append_cf1ce_43 : decode cJ5_append_cf1ce 43 = .ok (.aload_n 0, 1) := by decide +kernel
theorem dJ5_append_cf1ce_44 : decode cJ5_append_cf1ce 44 = .ok (.areturn, 1) := by decide +kernel
theorem dJ5_appendNull_278bc_0 : decode cJ5_appendNull_278bc 0 = .ok (.aload_n 0, 1) := by decide +kernel
theorem dJ5_appendNull_278bc_1 : decode cJ5_appendNull_278bc 1 = .ok (.aload_n 0, 1) := by decide +kernel
theorem dJ5_appendNull_278bc_2 : decode cJ5_appendNull_278bc 2 = .ok (.getfield 79, 3) := by decide +kernel
theorem dJ5_appendNull_278bc_5 : decode cJ5_appendNull_278bc 5 = .ok (.iconst 4, 1) := by decide +kernel
theorem dJ5_appendNull_278bc_6 : decode cJ5_appendNull_278bc 6 = .ok (.iadd, 1) := by decide +kernel
theorem dJ5_appendNull_278bc_7 : decode cJ5_appendNull_278bc 7 = .ok (.invokevirtual 100, 3) := by decide +kernel
theorem dJ5_appendNull_278bc_10 : decode cJ5_appendNull_278bc 10 = .ok (.aload_n 0, 1) := by decide +kernel
theorem dJ5_appendNull_278bc_11 : decode cJ5_appendNull_278bc 11 = .ok (.getfield 79, 3) := by decide +kernel
theorem dJ5_appendNull_278bc_14 : decode cJ5_appendNull_278bc 14 = .ok (.istore_n 1, 1) := by decide +kernel
theorem dJ5_appendNull_278bc_15 : decode cJ5_appendNull_278bc 15 = .ok (.aload_n 0, 1) := by decide +kernel
theorem dJ5_appendNull_278bc_16 : decode cJ5_appendNull_278bc 16 = .ok (.getfield 15, 3) := by decide +kernel
theorem dJ5_appendNull_278bc_19 : decode cJ5_appendNull_278bc 19 = .ok (.astore_n 2, 1) := by decide +kernel
theorem dJ5_appendNull_278bc_20 : decode cJ5_appendNull_278bc 20 = .ok (.aload_n 0, 1) := by decide +kernel
theorem dJ5_appendNull_278bc_21 : decode cJ5_appendNull_278bc 21 = .ok (.invokevirtual 83, 3) := by decide +kernel
theorem dJ5_appendNull_278bc_24 : decode cJ5_appendNull_278bc 24 = .ok (.ifCond .eq 38, 3) := by decide +kernel
theorem dJ5_appendNull_278bc_27 : decode cJ5_appendNull_278bc 27 = .ok (.aload_n 2, 1) := by decide +kernel
theorem dJ5_appendNull_278bc_28 : decode cJ5_appendNull_278bc 28 = .ok (.iload_n 1, 1) := by decide +kernel
theorem dJ5_appendNull_278bc_29 : decode cJ5_appendNull_278bc 29 = .ok (.iinc 1 1, 3) := by decide +kernel
theorem dJ5_appendNull_278bc_32 : decode cJ5_appendNull_278bc 32 = .ok (.bipush 110, 2) := by decide +kernel
theorem dJ5_appendNull_278bc_34 : decode cJ5_appendNull_278bc 34 = .ok (.bastore, 1) := by decide +kernel
theorem dJ5_appendNull_278bc_35 : decode cJ5_appendNull_278bc 35 = .ok (.aload_n 2, 1) := by decide +kernel
theorem dJ5_appendNull_278bc_36 : decode cJ5_appendNull_278bc 36 = .ok (.iload_n 1, 1) := by decide +kernel
theorem dJ5_appendNull_278bc_37 : decode cJ5_appendNull_278bc 37 = .ok (.iinc 1 1, 3) := by decide +kernel
theorem dJ5_appendNull_278bc_40 : decode cJ5_appendNull_278bc 40 = .ok (.bipush 117, 2) := by decide +kernel
theorem dJ5_appendNull_278bc_42 : decode cJ5_appendNull_278bc 42 = .ok (.bastore, 1) := by decide +kernel
theorem dJ5_appendNull_278bc_43 : decode cJ5_appendNull_278bc 43 = .ok (.aload_n 2, 1) := by decide +kernel
theorem dJ5_appendNull_278bc_44 : decode cJ5_appendNull_278bc 44 = .ok (.iload_n 1, 1) := by decide +kernel
theorem dJ5_appendNull_278bc_45 : decode cJ5_appendNull_278bc 45 = .ok (.iinc 1 1, 3) := by decide +kernel
theorem dJ5_appendNull_278bc_48 : decode cJ5_appendNull_278bc 48 = .ok (.bipush 108, 2) := by decide +kernel
theorem dJ5_appendNull_278bc_50 : decode cJ5_appendNull_278bc 50 = .ok (.bastore, 1) := by decide +kernel
theorem dJ5_appendNull_278bc_51 : decode cJ5_appendNull_278bc 51 = .ok (.aload_n 2, 1) := by decide +kernel
theorem dJ5_appendNull_278bc_52 : decode cJ5_appendNull_278bc 52 = .ok (.iload_n 1, 1) := by decide +kernel
theorem dJ5_appendNull_278bc_53 : decode cJ5_appendNull_278bc 53 = .ok (.iinc 1 1, 3) := by decide +kernel
theorem dJ5_appendNull_278bc_56 : decode cJ5_appendNull_278bc 56 = .ok (.bipush 108, 2) := by decide +kernel
theorem dJ5_appendNull_278bc_58 : decode cJ5_appendNull_278bc 58 = .ok (.bastore, 1) := by decide +kernel
theorem dJ5_appendNull_278bc_59 : decode cJ5_appendNull_278bc 59 = .ok (.goto 17, 3) := by decide +kernel
theorem dJ5_appendNull_278bc_62 : decode cJ5_appendNull_278bc 62 = .ok (.aload_n 2, 1) := by decide +kernel
theorem dJ5_appendNull_278bc_63 : decode cJ5_appendNull_278bc 63 = .ok (.iload_n 1, 1) := by decide +kernel
theorem dJ5_appendNull_278bc_64 : decode cJ5_appendNull_278bc 64 = .ok (.bipush 110, 2) := by decide +kernel
theorem dJ5_appendNull_278bc_66 : decode cJ5_appendNull_278bc 66 = .ok (.bipush 117, 2) := by decide +kernel
theorem dJ5_appendNull_278bc_68 : decode cJ5_appendNull_278bc 68 = .ok (.bipush 108, 2) := by decide +kernel
theorem dJ5_appendNull_278bc_70 : decode cJ5_appendNull_278bc 70 = .ok (.bipush 108, 2) := by decide +kernel
theorem dJ5_appendNull_278bc_72 : decode cJ5_appendNull_278bc 72 = .ok (.invokestatic 226, 3) := by decide +kernel
theorem dJ5_appendNull_278bc_75 : decode cJ5_appendNull_278bc 75 = .ok (.istore_n 1, 1) := by decide +kernel
theorem dJ5_appendNull_278bc_76 : decode cJ5_appendNull_278bc 76 = .ok (.aload_n 0, 1) := by decide +kernel
theorem dJ5_appendNull_278bc_77 : decode cJ5_appendNull_278bc 77 = .ok (.iload_n 1, 1) := by decide +kernel
theorem dJ5_appendNull_278bc_78 : decode cJ5_appendNull_278bc 78 = .ok (.putfield 79, 3) := by decide +kernel
theorem dJ5_appendNull_278bc_81 : decode cJ5_appendNull_278bc 81 = .ok (.aload_n 0, 1) := by decide +kernel
theorem dJ5_appendNull_278bc_82 : decode cJ5_appendNull_278bc 82 = .ok (.areturn, 1) := by decide +kernel
theorem dJ5_append_3fe6f_0 : decode cJ5_append_3fe6f 0 = .ok (.aload_n 0, 1) := by decide +kernel
theorem dJ5_append_3fe6f_1 : decode cJ5_append_3fe6f 1 = .ok (.aload_n 0, 1) := by decide +kernel
theorem dJ5_append_3fe6f_2 : decode cJ5_append_3fe6f 2 = .ok (.getfield 79, 3) := by decide +kernel
theorem dJ5_append_3fe6f_5 : decode cJ5_append_3fe6f 5 = .ok (.iconst 1, 1) := by decide +kernel
theorem dJ5_append_3fe6f_6 : decode cJ5_append_3fe6f 6 = .ok (.iadd, 1) := by decide +kernel
theorem dJ5_append_3fe6f_7 : decode cJ5_append_3fe6f 7 = .ok (.invokevirtual 100, 3) := by decide +kernel
theorem dJ5_append_3fe6f_10 : decode cJ5_append_3fe6f 10 = .ok (.aload_n 0, 1) := by decide +kernel
theorem dJ5_append_3fe6f_11 : decode cJ5_append_3fe6f 11 = .ok (.invokevirtual 83, 3) := by decide +kernel
theorem dJ5_append_3fe6f_14 : decode cJ5_append_3fe6f 14 = .ok (.ifCond .eq 31, 3) := by decide +kernel
theorem dJ5_append_3fe6f_17 : decode cJ5_append_3fe6f 17 = .ok (.iload_n 1, 1) := by decide +kernel
theorem dJ5_append_3fe6f_18 : decode cJ5_append_3fe6f 18 = .ok (.invokestatic 191, 3) := by decide +kernel
theorem dJ5_append_3fe6f_21 : decode cJ5_append_3fe6f 21 = .ok (.ifCond .eq 24, 3) := by decide +kernel
theorem dJ5_append_3fe6f_24 : decode cJ5_append_3fe6f 24 = .ok (.aload_n 0, 1) := by decide +kernel
theorem dJ5_append_3fe6f_25 : decode cJ5_append_3fe6f 25 = .ok (.getfield 15, 3) := by decide +kernel
theorem dJ5_append_3fe6f_28 : decode cJ5_append_3fe6f 28 = .ok (.aload_n 0, 1) := by decide +kernel
theorem dJ5_append_3fe6f_29 : decode cJ5_append_3fe6f 29 = .ok (.dup, 1) := by decide +kernel
theorem dJ5_append_3fe6f_30 : decode cJ5_append_3fe6f 30 = .ok (.getfield 79, 3) := by decide +kernel
theorem dJ5_append_3fe6f_33 : decode cJ5_append_3fe6f 33 = .ok (.dup_x1, 1) := by decide +kernel
theorem dJ5_append_3fe6f_34 : decode cJ5_append_3fe6f 34 = .ok (.iconst 1, 1) := by decide +kernel
theorem dJ5_append_3fe6f_35 : decode cJ5_append_3fe6f 35 = .ok (.iadd, 1) := by decide +kernel
theorem dJ5_append_3fe6f_36 : decode cJ5_append_3fe6f 36 = .ok (.putfield 79, 3) := by decide +kernel
theorem dJ5_append_3fe6f_39 : decode cJ5_append_3fe6f 39 = .ok (.iload_n 1, 1) := by decide +kernel
theorem dJ5_append_3fe6f_40 : decode cJ5_append_3fe6f 40 = .ok (.i2b, 1) := by decide +kernel
theorem dJ5_append_3fe6f_41 : decode cJ5_append_3fe6f 41 = .ok (.bastore, 1) := by decide +kernel
theorem dJ5_append_3fe6f_42 : decode cJ5_append_3fe6f 42 = .ok (.goto 33, 3) := by decide +kernel
theorem dJ5_append_3fe6f_45 : decode cJ5_append_3fe6f 45 = .ok (.aload_n 0, 1) := by decide +kernel
theorem dJ5_append_3fe6f_46 : decode cJ5_append_3fe6f 46 = .ok (.invokevirtual 83, 3) := by decide +kernel
theorem dJ5_append_3fe6f_49 : decode cJ5_append_3fe6f 49 = .ok (.ifCond .eq 7, 3) := by decide +kernel
theorem dJ5_append_3fe6f_52 : decode cJ5_append_3fe6f 52 = .ok (.aload_n 0, 1) := by decide +kernel
theorem dJ5_append_3fe6f_53 : decode cJ5_append_3fe6f 53 = .ok (.invokevirtual 195, 3) := by decide +kernel
theorem dJ5_append_3fe6f_56 : decode cJ5_append_3fe6f 56 = .ok (.aload_n 0, 1) := by decide +kernel
theorem dJ5_append_3fe6f_57 : decode cJ5_append_3fe6f 57 = .ok (.getfield 15, 3) := by decide +kernel
theorem dJ5_append_3fe6f_60 : decode cJ5_append_3fe6f 60 = .ok (.aload_n 0, 1) := by decide +kernel
theorem dJ5_append_3fe6f_61 : decode cJ5_append_3fe6f 61 = .ok (.dup, 1) := by decide +kernel
theorem dJ5_append_3fe6f_62 : decode cJ5_append_3fe6f 62 = .ok (.getfield 79, 3) := by decide +kernel
theorem dJ5_append_3fe6f_65 : decode cJ5_append_3fe6f 65 = .ok (.dup_x1, 1) := by decide +kernel
theorem dJ5_append_3fe6f_66 : decode cJ5_append_3fe6f 66 = .ok (.iconst 1, 1) := by decide +kernel
theorem dJ5_append_3fe6f_67 : decode cJ5_append_3fe6f 67 = .ok (.iadd, 1) := by decide +kernel
theorem dJ5_append_3fe6f_68 : decode cJ5_append_3fe6f 68 = .ok (.putfield 79, 3) := by decide +kernel
theorem dJ5_append_3fe6f_71 : decode cJ5_append_3fe6f 71 = .ok (.iload_n 1, 1) := by decide +kernel
theorem dJ5_append_3fe6f_72 : decode cJ5_append_3fe6f 72 = .ok (.invokestatic 197, 3) := by decide +kernel
theorem dJ5_append_3fe6f_75 : decode cJ5_append_3fe6f 75 = .ok (.aload_n 0, 1) := by decide +kernel
theorem dJ5_append_3fe6f_76 : decode cJ5_append_3fe6f 76 = .ok (.areturn, 1) := by decide +kernel
theorem dJ5_append_c97b9_0 : decode cJ5_append_c97b9 0 = .ok (.aload_n 0, 1) := by decide +kernel
theorem dJ5_append_c97b9_1 : decode cJ5_append_c97b9 1 = .ok (.getfield 79, 3) := by decide +kernel
theorem dJ5_append_c97b9_4 : decode cJ5_append_c97b9 4 = .ok (.istore_n 2, 1) := by decide +kernel
theorem dJ5_append_c97b9_5 : decode cJ5_append_c97b9 5 = .ok (.iload_n 2, 1) := by decide +kernel
theorem dJ5_append_c97b9_6 : decode cJ5_append_c97b9 6 = .ok (.iload_n 1, 1) := by decide +kernel
theorem dJ5_append_c97b9_7 : decode cJ5_append_c97b9 7 = .ok (.invokestatic 245, 3) := by decide +kernel
theorem dJ5_append_c97b9_10 : decode cJ5_append_c97b9 10 = .ok (.iadd, 1) := by decide +kernel
theorem dJ5_append_c97b9_11 : decode cJ5_append_c97b9 11 = .ok (.istore_n 3, 1) := by decide +kernel
theorem dJ5_append_c97b9_12 : decode cJ5_append_c97b9 12 = .ok (.aload_n 0, 1) := by decide +kernel
theorem dJ5_append_c97b9_13 : decode cJ5_append_c97b9 13 = .ok (.iload_n 3, 1) := by decide +kernel
theorem dJ5_append_c97b9_14 : decode cJ5_append_c97b9 14 = .ok (.invokevirtual 100, 3) := by decide +kernel
theorem dJ5_append_c97b9_17 : decode cJ5_append_c97b9 17 = .ok (.aload_n 0, 1) := by decide +kernel
theorem dJ5_append_c97b9_18 : decode cJ5_append_c97b9 18 = .ok (.invokevirtual 83, 3) := by decide +kernel
theorem dJ5_append_c97b9_21 : decode cJ5_append_c97b9 21 = .ok (.ifCond .eq 16, 3) := by decide +kernel
theorem dJ5_append_c97b9_24 : decode cJ5_append_c97b9 24 = .ok (.iload_n 1, 1) := by decide +kernel
theorem dJ5_append_c97b9_25 : decode cJ5_append_c97b9 25 = .ok (.iload_n 3, 1) := by decide +kernel
theorem dJ5_append_c97b9_26 : decode cJ5_append_c97b9 26 = .ok (.aload_n 0, 1) := by decide +kernel
theorem dJ5_append_c97b9_27 : decode cJ5_append_c97b9 27 = .ok (.getfield 15, 3) := by decide +kernel
theorem dJ5_append_c97b9_30 : decode cJ5_append_c97b9 30 = .ok (.invokestatic 248, 3) := by decide +kernel
theorem dJ5_append_c97b9_33 : decode cJ5_append_c97b9 33 = .ok (.pop, 1) := by decide +kernel
theorem dJ5_append_c97b9_34 : decode cJ5_append_c97b9 34 = .ok (.goto 14, 3) := by decide +kernel
theorem dJ5_append_c97b9_37 : decode cJ5_append_c97b9 37 = .ok (.iload_n 1, 1) := by decide +kernel
theorem dJ5_append_c97b9_38 : decode cJ5_append_c97b9 38 = .ok (.iload_n 2, 1) := by decide +kernel
theorem dJ5_append_c97b9_39 : decode cJ5_append_c97b9 39 = .ok (.iload_n 3, 1) := by decide +kernel
theorem dJ5_append_c97b9_40 : decode cJ5_append_c97b9 40 = .ok (.aload_n 0, 1) := by decide +kernel
theorem dJ5_append_c97b9_41 : decode cJ5_append_c97b9 41 = .ok (.getfield 15, 3) := by decide +kernel
theorem dJ5_append_c97b9_44 : decode cJ5_append_c97b9 44 = .ok (.invokestatic 251, 3) := by decide +kernel
theorem dJ5_append_c97b9_47 : decode cJ5_append_c97b9 47 = .ok (.pop, 1) := by decide +kernel
theorem dJ5_append_c97b9_48 : decode cJ5_append_c97b9 48 = .ok (.aload_n 0, 1) := by decide +kernel
theorem dJ5_append_c97b9_49 : decode cJ5_append_c97b9 49 = .ok (.iload_n 3, 1) := by decide +kernel
theorem dJ5_append_c97b9_50 : decode cJ5_append_c97b9 50 = .ok (.putfield 79, 3) := by decide +kernel
theorem dJ5_append_c97b9_53 : decode cJ5_append_c97b9 53 = .ok (.aload_n 0, 1) := by decide +kernel
theorem dJ5_append_c97b9_54 : decode cJ5_append_c97b9 54 = .ok (.areturn, 1) := by decide +kernel
theorem dJ5_isLatin1_aae02_0 : decode cJ5_isLatin1_aae02 0 = .ok (.getstatic 18, 3) := by decide +kernel
theorem dJ5_isLatin1_aae02_3 : decode cJ5_isLatin1_aae02 3 = .ok (.ifCond .eq 14, 3) := by decide +kernel
theorem dJ5_isLatin1_aae02_6 : decode cJ5_isLatin1_aae02 6 = .ok (.aload_n 0, 1) := by decide +kernel
theorem dJ5_isLatin1_aae02_7 : decode cJ5_isLatin1_aae02 7 = .ok (.getfield 22, 3) := by decide +kernel
theorem dJ5_isLatin1_aae02_10 : decode cJ5_isLatin1_aae02 10 = .ok (.ifCond .ne 7, 3) := by decide +kernel
theorem dJ5_isLatin1_aae02_13 : decode cJ5_isLatin1_aae02 13 = .ok (.iconst 1, 1) := by decide +kernel
theorem dJ5_isLatin1_aae02_14 : decode cJ5_isLatin1_aae02 14 = .ok (.goto 4, 3) := by decide +kernel
theorem dJ5_isLatin1_aae02_17 : decode cJ5_isLatin1_aae02 17 = .ok (.iconst 0, 1) := by decide +kernel
theorem dJ5_isLatin1_aae02_18 : decode cJ5_isLatin1_aae02 18 = .ok (.ireturn, 1) := by decide +kernel
theorem dJ5_inflateIfNeededFor_a7421_0 : decode cJ5_inflateIfNeededFor_a7421 0 = .ok (.getstatic 18, 3) := by decide +kernel
theorem dJ5_inflateIfNeededFor_a7421_3 : decode cJ5_inflateIfNeededFor_a7421 3 = .ok (.ifCond .eq 18, 3) := by decide +kernel
theorem dJ5_inflateIfNeededFor_a7421_6 : decode cJ5_inflateIfNeededFor_a7421 6 = .ok (.aload_n 0, 1) := by decide +kernel
theorem dJ5_inflateIfNeededFor_a7421_7 : decode cJ5_inflateIfNeededFor_a7421 7 = .ok (.getfield 22, 3) := by decide +kernel
theorem dJ5_inflateIfNeededFor_a7421_10 : decode cJ5_inflateIfNeededFor_a7421 10 = .ok (.aload_n 1, 1) := by decide +kernel
theorem dJ5_inflateIfNeededFor_a7421_11 : decode cJ5_inflateIfNeededFor_a7421 11 = .ok (.invokevirtual 40, 3) := by decide +kernel
theorem dJ5_inflateIfNeededFor_a7421_14 : decode cJ5_inflateIfNeededFor_a7421 14 = .ok (.if_icmp .eq 7, 3) := by decide +kernel
theorem dJ5_inflateIfNeededFor_a7421_17 : decode cJ5_inflateIfNeededFor_a7421 17 = .ok (.aload_n 0, 1) := by decide +kernel
theorem dJ5_inflateIfNeededFor_a7421_18 : decode cJ5_inflateIfNeededFor_a7421 18 = .ok (.invokevirtual 195, 3) := by decide +kernel
theorem dJ5_inflateIfNeededFor_a7421_21 : decode cJ5_inflateIfNeededFor_a7421 21 = .ok (.return_, 1) := by decide +kernel
theorem dJ5_putStringAt_47b60_0 : decode cJ5_putStringAt_47b60 0 = .ok (.aload_n 0, 1) := by decide +kernel
theorem dJ5_putStringAt_47b60_1 : decode cJ5_putStringAt_47b60 1 = .ok (.aload_n 2, 1) := by decide +kernel
theorem dJ5_putStringAt_47b60_2 : decode cJ5_putStringAt_47b60 2 = .ok (.invokevirtual 397, 3) := by decide +kernel
theorem dJ5_putStringAt_47b60_5 : decode cJ5_putStringAt_47b60 5 = .ok (.aload_n 2, 1) := by decide +kernel
theorem dJ5_putStringAt_47b60_6 : decode cJ5_putStringAt_47b60 6 = .ok (.aload_n 0, 1) := by decide +kernel
theorem dJ5_putStringAt_47b60_7 : decode cJ5_putStringAt_47b60 7 = .ok (.getfield 15, 3) := by decide +kernel
theorem dJ5_putStringAt_47b60_10 : decode cJ5_putStringAt_47b60 10 = .ok (.iload_n 1, 1) := by decide +kernel
theorem dJ5_putStringAt_47b60_11 : decode cJ5_putStringAt_47b60 11 = .ok (.aload_n 0, 1) := by decide +kernel
theorem dJ5_putStringAt_47b60_12 : decode cJ5_putStringAt_47b60 12 = .ok (.getfield 22, 3) := by decide +kernel
theorem dJ5_putStringAt_47b60_15 : decode cJ5_putStringAt_47b60 15 = .ok (.invokevirtual 399, 3) := by decide +kernel
theorem dJ5_putStringAt_47b60_18 : decode cJ5_putStringAt_47b60 18 = .ok (.return_, 1) := by decide +kernel
theorem dJ6_getChars_ba4f3_0 : decode cJ6_getChars_ba4f3 0 = .ok (.iload_n 1, 1) := by decide +kernel
theorem dJ6_getChars_ba4f3_1 : decode cJ6_getChars_ba4f3 1 = .ok (.istore 5, 2) := by decide +kernel
theorem dJ6_getChars_ba4f3_3 : decode cJ6_getChars_ba4f3 3 = .ok (.iload_n 0, 1) := by decide +kernel
theorem dJ6_getChars_ba4f3_4 : decode cJ6_getChars_ba4f3 4 = .ok (.ifCond .ge 7, 3) := by decide +kernel
theorem dJ6_getChars_ba4f3_7 : decode cJ6_getChars_ba4f3 7 = .ok (.iconst 1, 1) := by decide +kernel
theorem dJ6_getChars_ba4f3_8 : decode cJ6_getChars_ba4f3 8 = .ok (.goto 4, 3) := by decide +kernel
theorem dJ6_getChars_ba4f3_11 : decode cJ6_getChars_ba4f3 11 = .ok (.iconst 0, 1) := by decide +kernel
theorem dJ6_getChars_ba4f3_12 : decode cJ6_getChars_ba4f3 12 = .ok (.istore 6, 2) := by decide +kernel
theorem dJ6_getChars_ba4f3_14 : decode cJ6_getChars_ba4f3 14 = .ok (.iload 6, 2) := by decide +kernel
theorem dJ6_getChars_ba4f3_16 : decode cJ6_getChars_ba4f3 16 = .ok (.ifCond .ne 6, 3) := by decide +kernel
theorem dJ6_getChars_ba4f3_19 : decode cJ6_getChars_ba4f3 19 = .ok (.iload_n 0, 1) := by decide +kernel
theorem dJ6_getChars_ba4f3_20 : decode cJ6_getChars_ba4f3 20 = .ok (.ineg, 1) := by decide +kernel
theorem dJ6_getChars_ba4f3_21 : decode cJ6_getChars_ba4f3 21 = .ok (.istore_n 0, 1) := by decide +kernel
theorem dJ6_getChars_ba4f3_22 : decode cJ6_getChars_ba4f3 22 = .ok (.iload_n 0, 1) := by decide +kernel
theorem dJ6_getChars_ba4f3_23 : decode cJ6_getChars_ba4f3 23 = .ok (.bipush (-100), 2) := by decide +kernel
theorem dJ6_getChars_ba4f3_25 : decode cJ6_getChars_ba4f3 25 = .ok (.if_icmp .gt 47, 3) := by decide +kernel
theorem dJ6_getChars_ba4f3_28 : decode cJ6_getChars_ba4f3 28 = .ok (.iload_n 0, 1) := by decide +kernel
theorem dJ6_getChars_ba4f3_29 : decode cJ6_getChars_ba4f3 29 = .ok (.bipush 100, 2) := by decide +kernel
theorem dJ6_getChars_ba4f3_31 : decode cJ6_getChars_ba4f3 31 = .ok (.idiv, 1) := by decide +kernel
theorem dJ6_getChars_ba4f3_32 : decode cJ6_getChars_ba4f3 32 = .ok (.istore_n 3, 1) := by decide +kernel
theorem dJ6_getChars_ba4f3_33 : decode cJ6_getChars_ba4f3 33 = .ok (.iload_n 3, 1) := by decide +kernel
theorem dJ6_getChars_ba4f3_34 : decode cJ6_getChars_ba4f3 34 = .ok (.bipush 100, 2) := by decide +kernel
theorem dJ6_getChars_ba4f3_36 : decode cJ6_getChars_ba4f3 36 = .ok (.imul, 1) := by decide +kernel
theorem dJ6_getChars_ba4f3_37 : decode cJ6_getChars_ba4f3 37 = .ok (.iload_n 0, 1) := by decide +kernel
theorem dJ6_getChars_ba4f3_38 : decode cJ6_getChars_ba4f3 38 = .ok (.isub, 1) := by decide +kernel
theorem dJ6_getChars_ba4f3_39 : decode cJ6_getChars_ba4f3 39 = .ok (.istore 4, 2) := by decide +kernel
theorem dJ6_getChars_ba4f3_41 : decode cJ6_getChars_ba4f3 41 = .ok (.iload_n 3, 1) := by decide +kernel
theorem dJ6_getChars_ba4f3_42 : decode cJ6_getChars_ba4f3 42 = .ok (.istore_n 0, 1) := by decide +kernel
theorem dJ6_getChars_ba4f3_43 : decode cJ6_getChars_ba4f3 43 = .ok (.aload_n 2, 1) := by decide +kernel
theorem dJ6_getChars_ba4f3_44 : decode cJ6_getChars_ba4f3 44 = .ok (.iinc 5 (-1), 3) := by decide +kernel
theorem dJ6_getChars_ba4f3_47 : decode cJ6_getChars_ba4f3 47 = .ok (.iload 5, 2) := by decide +kernel
theorem dJ6_getChars_ba4f3_49 : decode cJ6_getChars_ba4f3 49 = .ok (.getstatic 83, 3) := by decide +kernel
theorem dJ6_getChars_ba4f3_52 : decode cJ6_getChars_ba4f3 52 = .ok (.iload 4, 2) := by decide +kernel
theorem dJ6_getChars_ba4f3_54 : decode cJ6_getChars_ba4f3 54 = .ok (.baload, 1) := by decide +kernel
theorem dJ6_getChars_ba4f3_55 : decode cJ6_getChars_ba4f3 55 = .ok (.bastore, 1) := by decide +kernel
theorem dJ6_getChars_ba4f3_56 : decode cJ6_getChars_ba4f3 56 = .ok (.aload_n 2, 1) := by decide +kernel
theorem dJ6_getChars_ba4f3_57 : decode cJ6_getChars_ba4f3 57 = .ok (.iinc 5 (-1), 3) := by decide +kernel
theorem dJ6_getChars_ba4f3_60 : decode cJ6_getChars_ba4f3 60 = .ok (.iload 5, 2) := by decide +kernel
theorem dJ6_getChars_ba4f3_62 : decode cJ6_getChars_ba4f3 62 = .ok (.getstatic 87, 3) := by decide +kernel
theorem dJ6_getChars_ba4f3_65 : decode cJ6_getChars_ba4f3 65 = .ok (.iload 4, 2) := by decide +kernel
theorem dJ6_getChars_ba4f3_67 : decode cJ6_getChars_ba4f3 67 = .ok (.baload, 1) := by decide +kernel
theorem dJ6_getChars_ba4f3_68 : decode cJ6_getChars_ba4f3 68 = .ok (.bastore, 1) := by decide +kernel
theorem dJ6_getChars_ba4f3_69 : decode cJ6_getChars_ba4f3 69 = .ok (.goto (-47), 3) := by decide +kernel
theorem dJ6_getChars_ba4f3_72 : decode cJ6_getChars_ba4f3 72 = .ok (.aload_n 2, 1) := by decide +kernel
theorem dJ6_getChars_ba4f3_73 : decode cJ6_getChars_ba4f3 73 = .ok (.iinc 5 (-1), 3) := by decide +kernel
theorem dJ6_getChars_ba4f3_76 : decode cJ6_getChars_ba4f3 76 = .ok (.iload 5, 2) := by decide +kernel
theorem dJ6_getChars_ba4f3_78 : decode cJ6_getChars_ba4f3 78 = .ok (.getstatic 83, 3) := by decide +kernel
theorem dJ6_getChars_ba4f3_81 : decode cJ6_getChars_ba4f3 81 = .ok (.iload_n 0, 1) := by decide +kernel
theorem dJ6_getChars_ba4f3_82 : decode cJ6_getChars_ba4f3 82 = .ok (.ineg, 1) := by decide +kernel
theorem dJ6_getChars_ba4f3_83 : decode cJ6_getChars_ba4f3 83 = .ok (.baload, 1) := by decide +kernel
theorem dJ6_getChars_ba4f3_84 : decode cJ6_getChars_ba4f3 84 = .ok (.bastore, 1) := by decide +kernel
theorem dJ6_getChars_ba4f3_85 : decode cJ6_getChars_ba4f3 85 = .ok (.iload_n 0, 1) := by decide +kernel
theorem dJ6_getChars_ba4f3_86 : decode cJ6_getChars_ba4f3 86 = .ok (.bipush (-9), 2) := by decide +kernel
theorem dJ6_getChars_ba4f3_88 : decode cJ6_getChars_ba4f3 88 = .ok (.if_icmp .ge 16, 3) := by decide +kernel
theorem dJ6_getChars_ba4f3_91 : decode cJ6_getChars_ba4f3 91 = .ok (.aload_n 2, 1) := by decide +kernel
theorem dJ6_getChars_ba4f3_92 : decode cJ6_getChars_ba4f3 92 = .ok (.iinc 5 (-1), 3) := by decide +kernel
theorem dJ6_getChars_ba4f3_95 : decode cJ6_getChars_ba4f3 95 = .ok (.iload 5, 2) := by decide +kernel
theorem dJ6_getChars_ba4f3_97 : decode cJ6_getChars_ba4f3 97 = .ok (.getstatic 87, 3) := by decide +kernel
theorem dJ6_getChars_ba4f3_100 : decode cJ6_getChars_ba4f3 100 = .ok (.iload_n 0, 1) := by decide +kernel
theorem dJ6_getChars_ba4f3_101 : decode cJ6_getChars_ba4f3 101 = .ok (.ineg, 1) := by decide +kernel
theorem dJ6_getChars_ba4f3_102 : decode cJ6_getChars_ba4f3 102 = .ok (.baload, 1) := by decide +kernel
theorem dJ6_getChars_ba4f3_103 : decode cJ6_getChars_ba4f3 103 = .ok (.bastore, 1) := by decide +kernel
theorem dJ6_getChars_ba4f3_104 : decode cJ6_getChars_ba4f3 104 = .ok (.iload 6, 2) := by decide +kernel
theorem dJ6_getChars_ba4f3_106 : decode cJ6_getChars_ba4f3 106 = .ok (.ifCond .eq 12, 3) := by decide +kernel
theorem dJ6_getChars_ba4f3_109 : decode cJ6_getChars_ba4f3 109 = .ok (.aload_n 2, 1) := by decide +kernel
theorem dJ6_getChars_ba4f3_110 : decode cJ6_getChars_ba4f3 110 = .ok (.iinc 5 (-1), 3) := by decide +kernel
theorem dJ6_getChars_ba4f3_113 : decode cJ6_getChars_ba4f3 113 = .ok (.iload 5, 2) := by decide +kernel
theorem dJ6_getChars_ba4f3_115 : decode cJ6_getChars_ba4f3 115 = .ok (.bipush 45, 2) := by decide +kernel
theorem dJ6_getChars_ba4f3_117 : decode cJ6_getChars_ba4f3 117 = .ok (.bastore, 1) := by decide +kernel
theorem dJ6_getChars_ba4f3_118 : decode cJ6_getChars_ba4f3 118 = .ok (.iload 5, 2) := by decide +kernel
theorem dJ6_getChars_ba4f3_120 : decode cJ6_getChars_ba4f3 120 = .ok (.ireturn, 1) := by decide +kernel
theorem dJ6_stringSize_0f7a4_0 : decode cJ6_stringSize_0f7a4 0 = .ok (.iconst 1, 1) := by decide +kernel
theorem dJ6_stringSize_0f7a4_1 : decode cJ6_stringSize_0f7a4 1 = .ok (.istore_n 1, 1) := by decide +kernel
theorem dJ6_stringSize_0f7a4_2 : decode cJ6_stringSize_0f7a4 2 = .ok (.iload_n 0, 1) := by decide +kernel
theorem dJ6_stringSize_0f7a4_3 : decode cJ6_stringSize_0f7a4 3 = .ok (.ifCond .lt 8, 3) := by decide +kernel
theorem dJ6_stringSize_0f7a4_6 : decode cJ6_stringSize_0f7a4 6 = .ok (.iconst 0, 1) := by decide +kernel
theorem dJ6_stringSize_0f7a4_7 : decode cJ6_stringSize_0f7a4 7 = .ok (.istore_n 1, 1) := by decide +kernel
theorem dJ6_stringSize_0f7a4_8 : decode cJ6_stringSize_0f7a4 8 = .ok (.iload_n 0, 1) := by decide +kernel
theorem dJ6_stringSize_0f7a4_9 : decode cJ6_stringSize_0f7a4 9 = .ok (.ineg, 1) := by decide +kernel
theorem dJ6_stringSize_0f7a4_10 : decode cJ6_stringSize_0f7a4 10 = .ok (.istore_n 0, 1) := by decide +kernel
theorem dJ6_stringSize_0f7a4_11 : decode cJ6_stringSize_0f7a4 11 = .ok (.bipush (-10), 2) := by decide +kernel
theorem dJ6_stringSize_0f7a4_13 : decode cJ6_stringSize_0f7a4 13 = .ok (.istore_n 2, 1) := by decide +kernel
theorem dJ6_stringSize_0f7a4_14 : decode cJ6_stringSize_0f7a4 14 = .ok (.iconst 1, 1) := by decide +kernel
theorem dJ6_stringSize_0f7a4_15 : decode cJ6_stringSize_0f7a4 15 = .ok (.istore_n 3, 1) := by decide +kernel
theorem dJ6_stringSize_0f7a4_16 : decode cJ6_stringSize_0f7a4 16 = .ok (.iload_n 3, 1) := by decide +kernel
theorem dJ6_stringSize_0f7a4_17 : decode cJ6_stringSize_0f7a4 17 = .ok (.bipush 10, 2) := by decide +kernel
theorem dJ6_stringSize_0f7a4_19 : decode cJ6_stringSize_0f7a4 19 = .ok (.if_icmp .ge 23, 3) := by decide +kernel
theorem dJ6_stringSize_0f7a4_22 : decode cJ6_stringSize_0f7a4 22 = .ok (.iload_n 0, 1) := by decide +kernel
theorem dJ6_stringSize_0f7a4_23 : decode cJ6_stringSize_0f7a4 23 = .ok (.iload_n 2, 1) := by decide +kernel
theorem dJ6_stringSize_0f7a4_24 : decode cJ6_stringSize_0f7a4 24 = .ok (.if_icmp .le 7, 3) := by decide +kernel
theorem dJ6_stringSize_0f7a4_27 : decode cJ6_stringSize_0f7a4 27 = .ok (.iload_n 3, 1) := by decide +kernel
theorem dJ6_stringSize_0f7a4_28 : decode cJ6_stringSize_0f7a4 28 = .ok (.iload_n 1, 1) := by decide +kernel
theorem dJ6_stringSize_0f7a4_29 : decode cJ6_stringSize_0f7a4 29 = .ok (.iadd, 1) := by decide +kernel
theorem dJ6_stringSize_0f7a4_30 : decode cJ6_stringSize_0f7a4 30 = .ok (.ireturn, 1) := by decide +kernel
theorem dJ6_stringSize_0f7a4_31 : decode cJ6_stringSize_0f7a4 31 = .ok (.bipush 10, 2) := by decide +kernel
theorem dJ6_stringSize_0f7a4_33 : decode cJ6_stringSize_0f7a4 33 = .ok (.iload_n 2, 1) := by decide +kernel
theorem dJ6_stringSize_0f7a4_34 : decode cJ6_stringSize_0f7a4 34 = .ok (.imul, 1) := by decide +kernel
theorem dJ6_stringSize_0f7a4_35 : decode cJ6_stringSize_0f7a4 35 = .ok (.istore_n 2, 1) := by decide +kernel
theorem dJ6_stringSize_0f7a4_36 : decode cJ6_stringSize_0f7a4 36 = .ok (.iinc 3 1, 3) := by decide +kernel
theorem dJ6_stringSize_0f7a4_39 : decode cJ6_stringSize_0f7a4 39 = .ok (.goto (-23), 3) := by decide +kernel
theorem dJ6_stringSize_0f7a4_42 : decode cJ6_stringSize_0f7a4 42 = .ok (.bipush 10, 2) := by decide +kernel
theorem dJ6_stringSize_0f7a4_44 : decode cJ6_stringSize_0f7a4 44 = .ok (.iload_n 1, 1) := by decide +kernel
theorem dJ6_stringSize_0f7a4_45 : decode cJ6_stringSize_0f7a4 45 = .ok (.iadd, 1) := by decide +kernel
theorem dJ6_stringSize_0f7a4_46 : decode cJ6_stringSize_0f7a4 46 = .ok (.ireturn, 1) := by decide +kernel
theorem dJ9_floorMod_7cf53_0 : decode cJ9_floorMod_7cf53 0 = .ok (.iload_n 0, 1) := by decide +kernel
theorem dJ9_floorMod_7cf53_1 : decode cJ9_floorMod_7cf53 1 = .ok (.iload_n 1, 1) := by decide +kernel
theorem dJ9_floorMod_7cf53_2 : decode cJ9_floorMod_7cf53 2 = .ok (.irem, 1) := by decide +kernel
theorem dJ9_floorMod_7cf53_3 : decode cJ9_floorMod_7cf53 3 = .ok (.istore_n 2, 1) := by decide +kernel
theorem dJ9_floorMod_7cf53_4 : decode cJ9_floorMod_7cf53 4 = .ok (.iload_n 0, 1) := by decide +kernel
theorem dJ9_floorMod_7cf53_5 : decode cJ9_floorMod_7cf53 5 = .ok (.iload_n 1, 1) := by decide +kernel
theorem dJ9_floorMod_7cf53_6 : decode cJ9_floorMod_7cf53 6 = .ok (.ixor, 1) := by decide +kernel
theorem dJ9_floorMod_7cf53_7 : decode cJ9_floorMod_7cf53 7 = .ok (.ifCond .ge 11, 3) := by decide +kernel
theorem dJ9_floorMod_7cf53_10 : decode cJ9_floorMod_7cf53 10 = .ok (.iload_n 2, 1) := by decide +kernel
theorem dJ9_floorMod_7cf53_11 : decode cJ9_floorMod_7cf53 11 = .ok (.ifCond .eq 7, 3) := by decide +kernel
theorem dJ9_floorMod_7cf53_14 : decode cJ9_floorMod_7cf53 14 = .ok (.iload_n 2, 1) := by decide +kernel
theorem dJ9_floorMod_7cf53_15 : decode cJ9_floorMod_7cf53 15 = .ok (.iload_n 1, 1) := by decide +kernel
theorem dJ9_floorMod_7cf53_16 : decode cJ9_floorMod_7cf53 16 = .ok (.iadd, 1) := by decide +kernel
theorem dJ9_floorMod_7cf53_17 : decode cJ9_floorMod_7cf53 17 = .ok (.ireturn, 1) := by decide +kernel
theorem dJ9_floorMod_7cf53_18 : decode cJ9_floorMod_7cf53 18 = .ok (.iload_n 2, 1) := by decide +kernel
theorem dJ9_floorMod_7cf53_19 : decode cJ9_floorMod_7cf53 19 = .ok (.ireturn, 1) := by decide +kernel
theorem dJ9_max_7cf53_0 : decode cJ9_max_7cf53 0 = .ok (.iload_n 0, 1) := by decide +kernel
theorem dJ9_max_7cf53_1 : decode cJ9_max_7cf53 1 = .ok (.iload_n 1, 1) := by decide +kernel
theorem dJ9_max_7cf53_2 : decode cJ9_max_7cf53 2 = .ok (.if_icmp .lt 7, 3) := by decide +kernel
theorem dJ9_max_7cf53_5 : decode cJ9_max_7cf53 5 = .ok (.iload_n 0, 1) := by decide +kernel
theorem dJ9_max_7cf53_6 : decode cJ9_max_7cf53 6 = .ok (.goto 4, 3) := by decide +kernel
theorem dJ9_max_7cf53_9 : decode cJ9_max_7cf53 9 = .ok (.iload_n 1, 1) := by decide +kernel
theorem dJ9_max_7cf53_10 : decode cJ9_max_7cf53 10 = .ok (.ireturn, 1) := by decide +kernel
theorem dJ9_min_7cf53_0 : decode cJ9_min_7cf53 0 = .ok (.iload_n 0, 1) := by decide +kernel
theorem dJ9_min_7cf53_1 : decode cJ9_min_7cf53 1 = .ok (.iload_n 1, 1) := by decide +kernel
theorem dJ9_min_7cf53_2 : decode cJ9_min_7cf53 2 = .ok (.if_icmp .gt 7, 3) := by decide +kernel
theorem dJ9_min_7cf53_5 : decode cJ9_min_7cf53 5 = .ok (.iload_n 0, 1) := by decide +kernel
theorem dJ9_min_7cf53_6 : decode cJ9_min_7cf53 6 = .ok (.goto 4, 3) := by decide +kernel
theorem dJ9_min_7cf53_9 : decode cJ9_min_7cf53 9 = .ok (.iload_n 1, 1) := by decide +kernel
theorem dJ9_min_7cf53_10 : decode cJ9_min_7cf53 10 = .ok (.ireturn, 1) := by decide +kernel
theorem dJ0_length_8abf5_0 : decode cJ0_length_8abf5 0 = .ok (.aload_n 0, 1) := by decide +kernel
theorem dJ0_length_8abf5_1 : decode cJ0_length_8abf5 1 = .ok (.getfield 9, 3) := by decide +kernel
theorem dJ0_length_8abf5_4 : decode cJ0_length_8abf5 4 = .ok (.arraylength, 1) := by decide +kernel
theorem dJ0_length_8abf5_5 : decode cJ0_length_8abf5 5 = .ok (.aload_n 0, 1) := by decide +kernel
theorem dJ0_length_8abf5_6 : decode cJ0_length_8abf5 6 = .ok (.invokevirtual 335, 3) := by decide +kernel
theorem dJ0_length_8abf5_9 : decode cJ0_length_8abf5 9 = .ok (.ishr, 1) := by decide +kernel
theorem dJ0_length_8abf5_10 : decode cJ0_length_8abf5 10 = .ok (.ireturn, 1) := by decide +kernel
theorem dJ0_charAt_5068e_0 : decode cJ0_charAt_5068e 0 = .ok (.aload_n 0, 1) := by decide +kernel
theorem dJ0_charAt_5068e_1 : decode cJ0_charAt_5068e 1 = .ok (.invokevirtual 492, 3) := by decide +kernel
theorem dJ0_charAt_5068e_4 : decode cJ0_charAt_5068e 4 = .ok (.ifCond .eq 12, 3) := by decide +kernel
theorem dJ0_charAt_5068e_7 : decode cJ0_charAt_5068e 7 = .ok (.aload_n 0, 1) := by decide +kernel
theorem dJ0_charAt_5068e_8 : decode cJ0_charAt_5068e 8 = .ok (.getfield 9, 3) := by decide +kernel
theorem dJ0_charAt_5068e_11 : decode cJ0_charAt_5068e 11 = .ok (.iload_n 1, 1) := by decide +kernel
theorem dJ0_charAt_5068e_12 : decode cJ0_charAt_5068e 12 = .ok (.invokestatic 495, 3) := by decide +kernel
theorem dJ0_charAt_5068e_15 : decode cJ0_charAt_5068e 15 = .ok (.ireturn, 1) := by decide +kernel
theorem dJ0_charAt_5068e_16 : decode cJ0_charAt_5068e 16 = .ok (.aload_n 0, 1) := by decide +kernel
theorem dJ0_charAt_5068e_17 : decode cJ0_charAt_5068e 17 = .ok (.getfield 9, 3) := by decide +kernel
theorem dJ0_charAt_5068e_20 : decode cJ0_charAt_5068e 20 = .ok (.iload_n 1, 1) := by decide +kernel
theorem dJ0_charAt_5068e_21 : decode cJ0_charAt_5068e 21 = .ok (.invokestatic 498, 3) := by decide +kernel
theorem dJ0_charAt_5068e_24 : decode cJ0_charAt_5068e 24 = .ok (.ireturn, 1) := by decide +kernel
theorem dJ0_getBytes_840e7_0 : decode cJ0_getBytes_840e7 0 = .ok (.aload_n 0, 1) := by decide +kernel
theorem dJ0_getBytes_840e7_1 : decode cJ0_getBytes_840e7 1 = .ok (.invokevirtual 335, 3) := by decide +kernel
theorem dJ0_getBytes_840e7_4 : decode cJ0_getBytes_840e7 4 = .ok (.iload_n 3, 1) := by decide +kernel
theorem dJ0_getBytes_840e7_5 : decode cJ0_getBytes_840e7 5 = .ok (.if_icmp .ne 23, 3) := by decide +kernel
theorem dJ0_getBytes_840e7_8 : decode cJ0_getBytes_840e7 8 = .ok (.aload_n 0, 1) := by decide +kernel
theorem dJ0_getBytes_840e7_9 : decode cJ0_getBytes_840e7 9 = .ok (.getfield 9, 3) := by decide +kernel
theorem dJ0_getBytes_840e7_12 : decode cJ0_getBytes_840e7 12 = .ok (.iconst 0, 1) := by decide +kernel
theorem dJ0_getBytes_840e7_13 : decode cJ0_getBytes_840e7 13 = .ok (.aload_n 1, 1) := by decide +kernel
theorem dJ0_getBytes_840e7_14 : decode cJ0_getBytes_840e7 14 = .ok (.iload_n 2, 1) := by decide +kernel
theorem dJ0_getBytes_840e7_15 : decode cJ0_getBytes_840e7 15 = .ok (.iload_n 3, 1) := by decide +kernel
theorem dJ0_getBytes_840e7_16 : decode cJ0_getBytes_840e7 16 = .ok (.ishl, 1) := by decide +kernel
theorem dJ0_getBytes_840e7_17 : decode cJ0_getBytes_840e7 17 = .ok (.aload_n 0, 1) := by decide +kernel
theorem dJ0_getBytes_840e7_18 : decode cJ0_getBytes_840e7 18 = .ok (.getfield 9, 3) := by decide +kernel
theorem dJ0_getBytes_840e7_21 : decode cJ0_getBytes_840e7 21 = .ok (.arraylength, 1) := by decide +kernel
theorem dJ0_getBytes_840e7_22 : decode cJ0_getBytes_840e7 22 = .ok (.invokestatic 212, 3) := by decide +kernel
theorem dJ0_getBytes_840e7_25 : decode cJ0_getBytes_840e7 25 = .ok (.goto 18, 3) := by decide +kernel
theorem dJ0_getBytes_840e7_28 : decode cJ0_getBytes_840e7 28 = .ok (.aload_n 0, 1) := by decide +kernel
theorem dJ0_getBytes_840e7_29 : decode cJ0_getBytes_840e7 29 = .ok (.getfield 9, 3) := by decide +kernel
theorem dJ0_getBytes_840e7_32 : decode cJ0_getBytes_840e7 32 = .ok (.iconst 0, 1) := by decide +kernel
theorem dJ0_getBytes_840e7_33 : decode cJ0_getBytes_840e7 33 = .ok (.aload_n 1, 1) := by decide +kernel
theorem dJ0_getBytes_840e7_34 : decode cJ0_getBytes_840e7 34 = .ok (.iload_n 2, 1) := by decide +kernel
theorem dJ0_getBytes_840e7_35 : decode cJ0_getBytes_840e7 35 = .ok (.aload_n 0, 1) := by decide +kernel
theorem dJ0_getBytes_840e7_36 : decode cJ0_getBytes_840e7 36 = .ok (.getfield 9, 3) := by decide +kernel
theorem dJ0_getBytes_840e7_39 : decode cJ0_getBytes_840e7 39 = .ok (.arraylength, 1) := by decide +kernel
theorem dJ0_getBytes_840e7_40 : decode cJ0_getBytes_840e7 40 = .ok (.invokestatic 106, 3) := by decide +kernel
theorem dJ0_getBytes_840e7_43 : decode cJ0_getBytes_840e7 43 = .ok (.return_, 1) := by decide +kernel
theorem dJ0_coder_7d493_0 : decode cJ0_coder_7d493 0 = .ok (.getstatic 38, 3) := by decide +kernel
theorem dJ0_coder_7d493_3 : decode cJ0_coder_7d493 3 = .ok (.ifCond .eq 10, 3) := by decide +kernel
theorem dJ0_coder_7d493_6 : decode cJ0_coder_7d493 6 = .ok (.aload_n 0, 1) := by decide +kernel
theorem dJ0_coder_7d493_7 : decode cJ0_coder_7d493 7 = .ok (.getfield 15, 3) := by decide +kernel
theorem dJ0_coder_7d493_10 : decode cJ0_coder_7d493 10 = .ok (.goto 4, 3) := by decide +kernel
theorem dJ0_coder_7d493_13 : decode cJ0_coder_7d493 13 = .ok (.iconst 1, 1) := by decide +kernel
theorem dJ0_coder_7d493_14 : decode cJ0_coder_7d493 14 = .ok (.ireturn, 1) := by decide +kernel
theorem dJ0_isLatin1_aae02_0 : decode cJ0_isLatin1_aae02 0 = .ok (.getstatic 38, 3) := by decide +kernel
theorem dJ0_isLatin1_aae02_3 : decode cJ0_isLatin1_aae02 3 = .ok (.ifCond .eq 14, 3) := by decide +kernel
theorem dJ0_isLatin1_aae02_6 : decode cJ0_isLatin1_aae02 6 = .ok (.aload_n 0, 1) := by decide +kernel
theorem dJ0_isLatin1_aae02_7 : decode cJ0_isLatin1_aae02 7 = .ok (.getfield 15, 3) := by decide +kernel
theorem dJ0_isLatin1_aae02_10 : decode cJ0_isLatin1_aae02 10 = .ok (.ifCond .ne 7, 3) := by decide +kernel
theorem dJ0_isLatin1_aae02_13 : decode cJ0_isLatin1_aae02 13 = .ok (.iconst 1, 1) := by decide +kernel
theorem dJ0_isLatin1_aae02_14 : decode cJ0_isLatin1_aae02 14 = .ok (.goto 4, 3) := by decide +kernel
theorem dJ0_isLatin1_aae02_17 : decode cJ0_isLatin1_aae02 17 = .ok (.iconst 0, 1) := by decide +kernel
theorem dJ0_isLatin1_aae02_18 : decode cJ0_isLatin1_aae02 18 = .ok (.ireturn, 1) := by decide +kernel
theorem dJ0_checkIndex_df160_0 : decode cJ0_checkIndex_df160 0 = .ok (.iload_n 0, 1) := by decide +kernel
theorem dJ0_checkIndex_df160_1 : decode cJ0_checkIndex_df160 1 = .ok (.iload_n 1, 1) := by decide +kernel
theorem dJ0_checkIndex_df160_2 : decode cJ0_checkIndex_df160 2 = .ok (.getstatic 1053, 3) := by decide +kernel
theorem dJ0_checkIndex_df160_5 : decode cJ0_checkIndex_df160 5 = .ok (.invokestatic 1059, 3) := by decide +kernel
theorem dJ0_checkIndex_df160_8 : decode cJ0_checkIndex_df160 8 = .ok (.pop, 1) := by decide +kernel
theorem dJ0_checkIndex_df160_9 : decode cJ0_checkIndex_df160 9 = .ok (.return_, 1) := by decide +kernel
theorem dJ0_checkBoundsOffCount_cabcc_0 : decode cJ0_checkBoundsOffCount_cabcc 0 = .ok (.iload_n 0, 1) := by decide +kernel
theorem dJ0_checkBoundsOffCount_cabcc_1 : decode cJ0_checkBoundsOffCount_cabcc 1 = .ok (.iload_n 1, 1) := by decide +kernel
theorem dJ0_checkBoundsOffCount_cabcc_2 : decode cJ0_checkBoundsOffCount_cabcc 2 = .ok (.iload_n 2, 1) := by decide +kernel
theorem dJ0_checkBoundsOffCount_cabcc_3 : decode cJ0_checkBoundsOffCount_cabcc 3 = .ok (.getstatic 1053, 3) := by decide +kernel
theorem dJ0_checkBoundsOffCount_cabcc_6 : decode cJ0_checkBoundsOffCount_cabcc 6 = .ok (.invokestatic 1065, 3) := by decide +kernel
theorem dJ0_checkBoundsOffCount_cabcc_9 : decode cJ0_checkBoundsOffCount_cabcc 9 = .ok (.ireturn, 1) := by decide +kernel
theorem dJ0_checkBoundsBeginEnd_23922_0 : decode cJ0_checkBoundsBeginEnd_23922 0 = .ok (.iload_n 0, 1) := by decide +kernel
theorem dJ0_checkBoundsBeginEnd_23922_1 : decode cJ0_checkBoundsBeginEnd_23922 1 = .ok (.iload_n 1, 1) := by decide +kernel
theorem dJ0_checkBoundsBeginEnd_23922_2 : decode cJ0_checkBoundsBeginEnd_23922 2 = .ok (.iload_n 2, 1) := by decide +kernel
theorem dJ0_checkBoundsBeginEnd_23922_3 : decode cJ0_checkBoundsBeginEnd_23922 3 = .ok (.getstatic 1053, 3) := by decide +kernel
theorem dJ0_checkBoundsBeginEnd_23922_6 : decode cJ0_checkBoundsBeginEnd_23922 6 = .ok (.invokestatic 1062, 3) := by decide +kernel
theorem dJ0_checkBoundsBeginEnd_23922_9 : decode cJ0_checkBoundsBeginEnd_23922 9 = .ok (.pop, 1) := by decide +kernel
theorem dJ0_checkBoundsBeginEnd_23922_10 : decode cJ0_checkBoundsBeginEnd_23922 10 = .ok (.return_, 1) := by decide +kernel
theorem dJ4_init_da8c8_0 : decode cJ4_init_da8c8 0 = .ok (.aload_n 0, 1) := by decide +kernel
theorem dJ4_init_da8c8_1 : decode cJ4_init_da8c8 1 = .ok (.bipush 16, 2) := by decide +kernel
theorem dJ4_init_da8c8_3 : decode cJ4_init_da8c8 3 = .ok (.invokespecial 1, 3) := by decide +kernel
theorem dJ4_init_da8c8_6 : decode cJ4_init_da8c8 6 = .ok (.return_, 1) := by decide +kernel
theorem dJ4_append_15ec4_0 : decode cJ4_append_15ec4 0 = .ok (.aload_n 0, 1) := by decide +kernel
theorem dJ4_append_15ec4_1 : decode cJ4_append_15ec4 1 = .ok (.aload_n 1, 1) := by decide +kernel
theorem dJ4_append_15ec4_2 : decode cJ4_append_15ec4 2 = .ok (.invokespecial 29, 3) := by decide +kernel
theorem dJ4_append_15ec4_5 : decode cJ4_append_15ec4 5 = .ok (.pop, 1) := by decide +kernel
theorem dJ4_append_15ec4_6 : decode cJ4_append_15ec4 6 = .ok (.aload_n 0, 1) := by decide +kernel
theorem dJ4_append_15ec4_7 : decode cJ4_append_15ec4 7 = .ok (.areturn, 1) := by decide +kernel
theorem dJ4_append_cf468_0 : decode cJ4_append_cf468 0 = .ok (.aload_n 0, 1) := by decide +kernel
theorem dJ4_append_cf468_1 : decode cJ4_append_cf468 1 = .ok (.iload_n 1, 1) := by decide +kernel
theorem dJ4_append_cf468_2 : decode cJ4_append_cf468 2 = .ok (.invokespecial 50, 3) := by decide +kernel
theorem dJ4_append_cf468_5 : decode cJ4_append_cf468 5 = .ok (.pop, 1) := by decide +kernel
theorem dJ4_append_cf468_6 : decode cJ4_append_cf468 6 = .ok (.aload_n 0, 1) := by decide +kernel
theorem dJ4_append_cf468_7 : decode cJ4_append_cf468 7 = .ok (.areturn, 1) := by decide +kernel
theorem dJ4_append_bf812_0 : decode cJ4_append_bf812 0 = .ok (.aload_n 0, 1) := by decide +kernel
theorem dJ4_append_bf812_1 : decode cJ4_append_bf812 1 = .ok (.iload_n 1, 1) := by decide +kernel
theorem dJ4_append_bf812_2 : decode cJ4_append_bf812 2 = .ok (.invokespecial 53, 3) := by decide +kernel
theorem dJ4_append_bf812_5 : decode cJ4_append_bf812 5 = .ok (.pop, 1) := by decide +kernel
theorem dJ4_append_bf812_6 : decode cJ4_append_bf812 6 = .ok (.aload_n 0, 1) := by decide +kernel
theorem dJ4_append_bf812_7 : decode cJ4_append_bf812 7 = .ok (.areturn, 1) := by decide +kernel
theorem dJ4_charAt_5068e_0 : decode cJ4_charAt_5068e 0 = .ok (.aload_n 0, 1) := by decide +kernel
theorem dJ4_charAt_5068e_1 : decode cJ4_charAt_5068e 1 = .ok (.iload_n 1, 1) := by decide +kernel
theorem dJ4_charAt_5068e_2 : decode cJ4_charAt_5068e 2 = .ok (.invokespecial 329, 3) := by decide +kernel
theorem dJ4_charAt_5068e_5 : decode cJ4_charAt_5068e 5 = .ok (.ireturn, 1) := by decide +kernel
theorem dJ4_setLength_d00df_0 : decode cJ4_setLength_d00df 0 = .ok (.aload_n 0, 1) := by decide +kernel
theorem dJ4_setLength_d00df_1 : decode cJ4_setLength_d00df 1 = .ok (.iload_n 1, 1) := by decide +kernel
theorem dJ4_setLength_d00df_2 : decode cJ4_setLength_d00df 2 = .ok (.invokespecial 333, 3) := by decide +kernel
theorem dJ4_setLength_d00df_5 : decode cJ4_setLength_d00df 5 = .ok (.return_, 1) := by decide +kernel
theorem dJ4_length_8abf5_0 : decode cJ4_length_8abf5 0 = .ok (.aload_n 0, 1) := by decide +kernel
theorem dJ4_length_8abf5_1 : decode cJ4_length_8abf5 1 = .ok (.invokespecial 343, 3) := by decide +kernel
theorem dJ4_length_8abf5_4 : decode cJ4_length_8abf5 4 = .ok (.ireturn, 1) := by decide +kernel
theorem dJ1_charAt_3b067_0 : decode cJ1_charAt_3b067 0 = .ok (.iload_n 1, 1) := by decide +kernel
theorem dJ1_charAt_3b067_1 : decode cJ1_charAt_3b067 1 = .ok (.aload_n 0, 1) := by decide +kernel
theorem dJ1_charAt_3b067_2 : decode cJ1_charAt_3b067 2 = .ok (.arraylength, 1) := by decide +kernel
theorem dJ1_charAt_3b067_3 : decode cJ1_charAt_3b067 3 = .ok (.invokestatic 9, 3) := by decide +kernel
theorem dJ1_charAt_3b067_6 : decode cJ1_charAt_3b067 6 = .ok (.aload_n 0, 1) := by decide +kernel
theorem dJ1_charAt_3b067_7 : decode cJ1_charAt_3b067 7 = .ok (.iload_n 1, 1) := by decide +kernel
theorem dJ1_charAt_3b067_8 : decode cJ1_charAt_3b067 8 = .ok (.baload, 1) := by decide +kernel
theorem dJ1_charAt_3b067_9 : decode cJ1_charAt_3b067 9 = .ok (.sipush 255, 3) := by decide +kernel
theorem dJ1_charAt_3b067_12 : decode cJ1_charAt_3b067 12 = .ok (.iand, 1) := by decide +kernel
theorem dJ1_charAt_3b067_13 : decode cJ1_charAt_3b067 13 = .ok (.i2c, 1) := by decide +kernel
theorem dJ1_charAt_3b067_14 : decode cJ1_charAt_3b067 14 = .ok (.ireturn, 1) := by decide +kernel
theorem dJ1_canEncode_fc78d_0 : decode cJ1_canEncode_fc78d 0 = .ok (.iload_n 0, 1) := by decide +kernel
theorem dJ1_canEncode_fc78d_1 : decode cJ1_canEncode_fc78d 1 = .ok (.sipush 255, 3) := by decide +kernel
theorem dJ1_canEncode_fc78d_4 : decode cJ1_canEncode_fc78d 4 = .ok (.if_icmp .gt 7, 3) := by decide +kernel
theorem dJ1_canEncode_fc78d_7 : decode cJ1_canEncode_fc78d 7 = .ok (.iconst 1, 1) := by decide +kernel
theorem dJ1_canEncode_fc78d_8 : decode cJ1_canEncode_fc78d 8 = .ok (.goto 4, 3) := by decide +kernel
theorem dJ1_canEncode_fc78d_11 : decode cJ1_canEncode_fc78d 11 = .ok (.iconst 0, 1) := by decide +kernel
theorem dJ1_canEncode_fc78d_12 : decode cJ1_canEncode_fc78d 12 = .ok (.ireturn, 1) := by decide +kernel
theorem dJ1_fillNull_b72d1_0 : decode cJ1_fillNull_b72d1 0 = .ok (.aload_n 0, 1) := by decide +kernel
theorem dJ1_fillNull_b72d1_1 : decode cJ1_fillNull_b72d1 1 = .ok (.iload_n 1, 1) := by decide +kernel
theorem dJ1_fillNull_b72d1_2 : decode cJ1_fillNull_b72d1 2 = .ok (.iload_n 2, 1) := by decide +kernel
theorem dJ1_fillNull_b72d1_3 : decode cJ1_fillNull_b72d1 3 = .ok (.iconst 0, 1) := by decide +kernel
theorem dJ1_fillNull_b72d1_4 : decode cJ1_fillNull_b72d1 4 = .ok (.invokestatic 236, 3) := by decide +kernel
theorem dJ1_fillNull_b72d1_7 : decode cJ1_fillNull_b72d1 7 = .ok (.return_, 1) := by decide +kernel
theorem dJ1_inflate_0e8fd_0 : decode cJ1_inflate_0e8fd 0 = .ok (.aload_n 0, 1) := by decide +kernel
theorem dJ1_inflate_0e8fd_1 : decode cJ1_inflate_0e8fd 1 = .ok (.iload_n 1, 1) := by decide +kernel
theorem dJ1_inflate_0e8fd_2 : decode cJ1_inflate_0e8fd 2 = .ok (.aload_n 2, 1) := by decide +kernel
theorem dJ1_inflate_0e8fd_3 : decode cJ1_inflate_0e8fd 3 = .ok (.iload_n 3, 1) := by decide +kernel
theorem dJ1_inflate_0e8fd_4 : decode cJ1_inflate_0e8fd 4 = .ok (.iload 4, 2) := by decide +kernel
theorem dJ1_inflate_0e8fd_6 : decode cJ1_inflate_0e8fd 6 = .ok (.invokestatic 240, 3) := by decide +kernel
theorem dJ1_inflate_0e8fd_9 : decode cJ1_inflate_0e8fd 9 = .ok (.return_, 1) := by decide +kernel
theorem dJ2_newBytesFor_77867_0 : decode cJ2_newBytesFor_77867 0 = .ok (.iload_n 0, 1) := by decide +kernel
theorem dJ2_newBytesFor_77867_1 : decode cJ2_newBytesFor_77867 1 = .ok (.invokestatic 11, 3) := by decide +kernel
theorem dJ2_newBytesFor_77867_4 : decode cJ2_newBytesFor_77867 4 = .ok (.newarray .byte, 2) := by decide +kernel
theorem dJ2_newBytesFor_77867_6 : decode cJ2_newBytesFor_77867 6 = .ok (.areturn, 1) := by decide +kernel
theorem dJ2_newBytesLength_0f7a4_0 : decode cJ2_newBytesLength_0f7a4 0 = .ok (.iload_n 0, 1) := by decide +kernel
theorem dJ2_newBytesLength_0f7a4_1 : decode cJ2_newBytesLength_0f7a4 1 = .ok (.ifCond .ge 11, 3) := by decide +kernel
theorem dJ2_newBytesLength_0f7a4_4 : decode cJ2_newBytesLength_0f7a4 4 = .ok (.new 17, 3) := by decide +kernel
theorem dJ2_newBytesLength_0f7a4_7 : decode cJ2_newBytesLength_0f7a4 7 = .ok (.dup, 1) := by decide +kernel
theorem dJ2_newBytesLength_0f7a4_8 : decode cJ2_newBytesLength_0f7a4 8 = .ok (.invokespecial 19, 3) := by decide +kernel
theorem dJ2_newBytesLength_0f7a4_11 : decode cJ2_newBytesLength_0f7a4 11 = .ok (.athrow, 1) := by decide +kernel
theorem dJ2_newBytesLength_0f7a4_12 : decode cJ2_newBytesLength_0f7a4 12 = .ok (.iload_n 0, 1) := by decide +kernel
theorem dJ2_newBytesLength_0f7a4_13 : decode cJ2_newBytesLength_0f7a4 13 = .ok (.ldc 20, 2) := by decide +kernel
theorem dJ2_newBytesLength_0f7a4_15 : decode cJ2_newBytesLength_0f7a4 15 = .ok (.if_icmp .lt 40, 3) := by decide +kernel
theorem dJ2_newBytesLength_0f7a4_18 : decode cJ2_newBytesLength_0f7a4 18 = .ok (.new 21, 3) := by decide +kernel
theorem dJ2_newBytesLength_0f7a4_21 : decode cJ2_newBytesLength_0f7a4 21 = .ok (.dup, 1) := by decide +kernel
theorem dJ2_newBytesLength_0f7a4_22 : decode cJ2_newBytesLength_0f7a4 22 = .ok (.new 23, 3) := by decide +kernel
theorem dJ2_newBytesLength_0f7a4_25 : decode cJ2_newBytesLength_0f7a4 25 = .ok (.dup, 1) := by decide +kernel
theorem dJ2_newBytesLength_0f7a4_26 : decode cJ2_newBytesLength_0f7a4 26 = .ok (.invokespecial 25, 3) := by decide +kernel
theorem dJ2_newBytesLength_0f7a4_29 : decode cJ2_newBytesLength_0f7a4 29 = .ok (.ldc 26, 2) := by decide +kernel
theorem dJ2_newBytesLength_0f7a4_31 : decode cJ2_newBytesLength_0f7a4 31 = .ok (.invokevirtual 28, 3) := by decide +kernel
theorem dJ2_newBytesLength_0f7a4_34 : decode cJ2_newBytesLength_0f7a4 34 = .ok (.iload_n 0, 1) := by decide +kernel
theorem dJ2_newBytesLength_0f7a4_35 : decode cJ2_newBytesLength_0f7a4 35 = .ok (.invokevirtual 32, 3) := by decide +kernel
theorem dJ2_newBytesLength_0f7a4_38 : decode cJ2_newBytesLength_0f7a4 38 = .ok (.ldc 35, 2) := by decide +kernel
theorem dJ2_newBytesLength_0f7a4_40 : decode cJ2_newBytesLength_0f7a4 40 = .ok (.invokevirtual 28, 3) := by decide +kernel
theorem dJ2_newBytesLength_0f7a4_43 : decode cJ2_newBytesLength_0f7a4 43 = .ok (.ldc 20, 2) := by decide +kernel
theorem dJ2_newBytesLength_0f7a4_45 : decode cJ2_newBytesLength_0f7a4 45 = .ok (.invokevirtual 32, 3) := by decide +kernel
theorem dJ2_newBytesLength_0f7a4_48 : decode cJ2_newBytesLength_0f7a4 48 = .ok (.invokevirtual 37, 3) := by decide +kernel
theorem dJ2_newBytesLength_0f7a4_51 : decode cJ2_newBytesLength_0f7a4 51 = .ok (.invokespecial 41, 3) := by decide +kernel
theorem dJ2_newBytesLength_0f7a4_54 : decode cJ2_newBytesLength_0f7a4 54 = .ok (.athrow, 1) := by decide +kernel
theorem dJ2_newBytesLength_0f7a4_55 : decode cJ2_newBytesLength_0f7a4 55 = .ok (.iload_n 0, 1) := by decide +kernel
theorem dJ2_newBytesLength_0f7a4_56 : decode cJ2_newBytesLength_0f7a4 56 = .ok (.iconst 1, 1) := by decide +kernel
theorem dJ2_newBytesLength_0f7a4_57 : decode cJ2_newBytesLength_0f7a4 57 = .ok (.ishl, 1) := by decide +kernel
theorem dJ2_newBytesLength_0f7a4_58 : decode cJ2_newBytesLength_0f7a4 58 = .ok (.ireturn, 1) := by decide +kernel
theorem dJ2_putChar_b72d1_0 : decode cJ2_putChar_b72d1 0 = .ok (.getstatic 44, 3) := by decide +kernel
theorem dJ2_putChar_b72d1_3 : decode cJ2_putChar_b72d1 3 = .ok (.ifCond .ne 25, 3) := by decide +kernel
theorem dJ2_putChar_b72d1_6 : decode cJ2_putChar_b72d1 6 = .ok (.iload_n 1, 1) := by decide +kernel
theorem dJ2_putChar_b72d1_7 : decode cJ2_putChar_b72d1 7 = .ok (.ifCond .lt 11, 3) := by decide +kernel
theorem dJ2_putChar_b72d1_10 : decode cJ2_putChar_b72d1 10 = .ok (.iload_n 1, 1) := by decide +kernel
theorem dJ2_putChar_b72d1_11 : decode cJ2_putChar_b72d1 11 = .ok (.aload_n 0, 1) := by decide +kernel
theorem dJ2_putChar_b72d1_12 : decode cJ2_putChar_b72d1 12 = .ok (.invokestatic 48, 3) := by decide +kernel
theorem dJ2_putChar_b72d1_15 : decode cJ2_putChar_b72d1 15 = .ok (.if_icmp .lt 13, 3) := by decide +kernel
theorem dJ2_putChar_b72d1_18 : decode cJ2_putChar_b72d1 18 = .ok (.new 52, 3) := by decide +kernel
theorem dJ2_putChar_b72d1_21 : decode cJ2_putChar_b72d1 21 = .ok (.dup, 1) := by decide +kernel
theorem dJ2_putChar_b72d1_22 : decode cJ2_putChar_b72d1 22 = .ok (.ldc 54, 2) := by decide +kernel
theorem dJ2_putChar_b72d1_24 : decode cJ2_putChar_b72d1 24 = .ok (.invokespecial 56, 3) := by decide +kernel
theorem dJ2_putChar_b72d1_27 : decode cJ2_putChar_b72d1 27 = .ok (.athrow, 1) := by decide +kernel
theorem dJ2_putChar_b72d1_28 : decode cJ2_putChar_b72d1 28 = .ok (.iload_n 1, 1) := by decide +kernel
theorem dJ2_putChar_b72d1_29 : decode cJ2_putChar_b72d1 29 = .ok (.iconst 1, 1) := by decide +kernel
theorem dJ2_putChar_b72d1_30 : decode cJ2_putChar_b72d1 30 = .ok (.ishl, 1) := by decide +kernel
theorem dJ2_putChar_b72d1_31 : decode cJ2_putChar_b72d1 31 = .ok (.istore_n 1, 1) := by decide +kernel
theorem dJ2_putChar_b72d1_32 : decode cJ2_putChar_b72d1 32 = .ok (.aload_n 0, 1) := by decide +kernel
theorem dJ2_putChar_b72d1_33 : decode cJ2_putChar_b72d1 33 = .ok (.iload_n 1, 1) := by decide +kernel
theorem dJ2_putChar_b72d1_34 : decode cJ2_putChar_b72d1 34 = .ok (.iinc 1 1, 3) := by decide +kernel
theorem dJ2_putChar_b72d1_37 : decode cJ2_putChar_b72d1 37 = .ok (.iload_n 2, 1) := by decide +kernel
theorem dJ2_putChar_b72d1_38 : decode cJ2_putChar_b72d1 38 = .ok (.getstatic 59, 3) := by decide +kernel
theorem dJ2_putChar_b72d1_41 : decode cJ2_putChar_b72d1 41 = .ok (.ishr, 1) := by decide +kernel
theorem dJ2_putChar_b72d1_42 : decode cJ2_putChar_b72d1 42 = .ok (.i2b, 1) := by decide +kernel
theorem dJ2_putChar_b72d1_43 : decode cJ2_putChar_b72d1 43 = .ok (.bastore, 1) := by decide +kernel
theorem dJ2_putChar_b72d1_44 : decode cJ2_putChar_b72d1 44 = .ok (.aload_n 0, 1) := by decide +kernel
theorem dJ2_putChar_b72d1_45 : decode cJ2_putChar_b72d1 45 = .ok (.iload_n 1, 1) := by decide +kernel
theorem dJ2_putChar_b72d1_46 : decode cJ2_putChar_b72d1 46 = .ok (.iload_n 2, 1) := by decide +kernel
theorem dJ2_putChar_b72d1_47 : decode cJ2_putChar_b72d1 47 = .ok (.getstatic 63, 3) := by decide +kernel
theorem dJ2_putChar_b72d1_50 : decode cJ2_putChar_b72d1 50 = .ok (.ishr, 1) := by decide +kernel
theorem dJ2_putChar_b72d1_51 : decode cJ2_putChar_b72d1 51 = .ok (.i2b, 1) := by decide +kernel
theorem dJ2_putChar_b72d1_52 : decode cJ2_putChar_b72d1 52 = .ok (.bastore, 1) := by decide +kernel
theorem dJ2_putChar_b72d1_53 : decode cJ2_putChar_b72d1 53 = .ok (.return_, 1) := by decide +kernel
theorem dJ2_getChar_3b067_0 : decode cJ2_getChar_3b067 0 = .ok (.getstatic 44, 3) := by decide +kernel
theorem dJ2_getChar_3b067_3 : decode cJ2_getChar_3b067 3 = .ok (.ifCond .ne 25, 3) := by decide +kernel
theorem dJ2_getChar_3b067_6 : decode cJ2_getChar_3b067 6 = .ok (.iload_n 1, 1) := by decide +kernel
theorem dJ2_getChar_3b067_7 : decode cJ2_getChar_3b067 7 = .ok (.ifCond .lt 11, 3) := by decide +kernel
theorem dJ2_getChar_3b067_10 : decode cJ2_getChar_3b067 10 = .ok (.iload_n 1, 1) := by decide +kernel
theorem dJ2_getChar_3b067_11 : decode cJ2_getChar_3b067 11 = .ok (.aload_n 0, 1) := by decide +kernel
theorem dJ2_getChar_3b067_12 : decode cJ2_getChar_3b067 12 = .ok (.invokestatic 48, 3) := by decide +kernel
theorem dJ2_getChar_3b067_15 : decode cJ2_getChar_3b067 15 = .ok (.if_icmp .lt 13, 3) := by decide +kernel
theorem dJ2_getChar_3b067_18 : decode cJ2_getChar_3b067 18 = .ok (.new 52, 3) := by decide +kernel
theorem dJ2_getChar_3b067_21 : decode cJ2_getChar_3b067 21 = .ok (.dup, 1) := by decide +kernel
theorem dJ2_getChar_3b067_22 : decode cJ2_getChar_3b067 22 = .ok (.ldc 54, 2) := by decide +kernel
theorem dJ2_getChar_3b067_24 : decode cJ2_getChar_3b067 24 = .ok (.invokespecial 56, 3) := by decide +kernel
theorem dJ2_getChar_3b067_27 : decode cJ2_getChar_3b067 27 = .ok (.athrow, 1) := by decide +kernel
theorem dJ2_getChar_3b067_28 : decode cJ2_getChar_3b067 28 = .ok (.iload_n 1, 1) := by decide +kernel
theorem dJ2_getChar_3b067_29 : decode cJ2_getChar_3b067 29 = .ok (.iconst 1, 1) := by decide +kernel
theorem dJ2_getChar_3b067_30 : decode cJ2_getChar_3b067 30 = .ok (.ishl, 1) := by decide +kernel
theorem dJ2_getChar_3b067_31 : decode cJ2_getChar_3b067 31 = .ok (.istore_n 1, 1) := by decide +kernel
theorem dJ2_getChar_3b067_32 : decode cJ2_getChar_3b067 32 = .ok (.aload_n 0, 1) := by decide +kernel
theorem dJ2_getChar_3b067_33 : decode cJ2_getChar_3b067 33 = .ok (.iload_n 1, 1) := by decide +kernel
theorem dJ2_getChar_3b067_34 : decode cJ2_getChar_3b067 34 = .ok (.iinc 1 1, 3) := by decide +kernel
theorem dJ2_getChar_3b067_37 : decode cJ2_getChar_3b067 37 = .ok (.baload, 1) := by decide +kernel
theorem dJ2_getChar_3b067_38 : decode cJ2_getChar_3b067 38 = .ok (.sipush 255, 3) := by decide +kernel
theorem dJ2_getChar_3b067_41 : decode cJ2_getChar_3b067 41 = .ok (.iand, 1) := by decide +kernel
theorem dJ2_getChar_3b067_42 : decode cJ2_getChar_3b067 42 = .ok (.getstatic 59, 3) := by decide +kernel
theorem dJ2_getChar_3b067_45 : decode cJ2_getChar_3b067 45 = .ok (.ishl, 1) := by decide +kernel
theorem dJ2_getChar_3b067_46 : decode cJ2_getChar_3b067 46 = .ok (.aload_n 0, 1) := by decide +kernel
theorem dJ2_getChar_3b067_47 : decode cJ2_getChar_3b067 47 = .ok (.iload_n 1, 1) := by decide +kernel
theorem dJ2_getChar_3b067_48 : decode cJ2_getChar_3b067 48 = .ok (.baload, 1) := by decide +kernel
theorem dJ2_getChar_3b067_49 : decode cJ2_getChar_3b067 49 = .ok (.sipush 255, 3) := by decide +kernel
theorem dJ2_getChar_3b067_52 : decode cJ2_getChar_3b067 52 = .ok (.iand, 1) := by decide +kernel
theorem dJ2_getChar_3b067_53 : decode cJ2_getChar_3b067 53 = .ok (.getstatic 63, 3) := by decide +kernel
theorem dJ2_getChar_3b067_56 : decode cJ2_getChar_3b067 56 = .ok (.ishl, 1) := by decide +kernel
theorem dJ2_getChar_3b067_57 : decode cJ2_getChar_3b067 57 = .ok (.ior, 1) := by decide +kernel
theorem dJ2_getChar_3b067_58 : decode cJ2_getChar_3b067 58 = .ok (.i2c, 1) := by decide +kernel
theorem dJ2_getChar_3b067_59 : decode cJ2_getChar_3b067 59 = .ok (.ireturn, 1) := by decide +kernel
theorem dJ2_length_9d52b_0 : decode cJ2_length_9d52b 0 = .ok (.aload_n 0, 1) := by decide +kernel
theorem dJ2_length_9d52b_1 : decode cJ2_length_9d52b 1 = .ok (.arraylength, 1) := by decide +kernel
theorem dJ2_length_9d52b_2 : decode cJ2_length_9d52b 2 = .ok (.iconst 1, 1) := by decide +kernel
theorem dJ2_length_9d52b_3 : decode cJ2_length_9d52b 3 = .ok (.ishr, 1) := by decide +kernel
theorem dJ2_length_9d52b_4 : decode cJ2_length_9d52b 4 = .ok (.ireturn, 1) := by decide +kernel
theorem dJ2_fillNull_b72d1_0 : decode cJ2_fillNull_b72d1 0 = .ok (.aload_n 0, 1) := by decide +kernel
theorem dJ2_fillNull_b72d1_1 : decode cJ2_fillNull_b72d1 1 = .ok (.iload_n 1, 1) := by decide +kernel
theorem dJ2_fillNull_b72d1_2 : decode cJ2_fillNull_b72d1 2 = .ok (.iconst 1, 1) := by decide +kernel
theorem dJ2_fillNull_b72d1_3 : decode cJ2_fillNull_b72d1 3 = .ok (.ishl, 1) := by decide +kernel
theorem dJ2_fillNull_b72d1_4 : decode cJ2_fillNull_b72d1 4 = .ok (.iload_n 2, 1) := by decide +kernel
theorem dJ2_fillNull_b72d1_5 : decode cJ2_fillNull_b72d1 5 = .ok (.iconst 1, 1) := by decide +kernel
theorem dJ2_fillNull_b72d1_6 : decode cJ2_fillNull_b72d1 6 = .ok (.ishl, 1) := by decide +kernel
theorem dJ2_fillNull_b72d1_7 : decode cJ2_fillNull_b72d1 7 = .ok (.iconst 0, 1) := by decide +kernel
theorem dJ2_fillNull_b72d1_8 : decode cJ2_fillNull_b72d1 8 = .ok (.invokestatic 380, 3) := by decide +kernel
theorem dJ2_fillNull_b72d1_11 : decode cJ2_fillNull_b72d1 11 = .ok (.return_, 1) := by decide +kernel
theorem dJ2_putCharSB_b72d1_0 : decode cJ2_putCharSB_b72d1 0 = .ok (.iload_n 1, 1) := by decide +kernel
theorem dJ2_putCharSB_b72d1_1 : decode cJ2_putCharSB_b72d1 1 = .ok (.aload_n 0, 1) := by decide +kernel
theorem dJ2_putCharSB_b72d1_2 : decode cJ2_putCharSB_b72d1 2 = .ok (.invokestatic 67, 3) := by decide +kernel
theorem dJ2_putCharSB_b72d1_5 : decode cJ2_putCharSB_b72d1 5 = .ok (.aload_n 0, 1) := by decide +kernel
theorem dJ2_putCharSB_b72d1_6 : decode cJ2_putCharSB_b72d1 6 = .ok (.iload_n 1, 1) := by decide +kernel
theorem dJ2_putCharSB_b72d1_7 : decode cJ2_putCharSB_b72d1 7 = .ok (.iload_n 2, 1) := by decide +kernel
theorem dJ2_putCharSB_b72d1_8 : decode cJ2_putCharSB_b72d1 8 = .ok (.invokestatic 111, 3) := by decide +kernel
theorem dJ2_putCharSB_b72d1_11 : decode cJ2_putCharSB_b72d1 11 = .ok (.return_, 1) := by decide +kernel
theorem dJ2_getChars_46870_0 : decode cJ2_getChars_46870 0 = .ok (.iload_n 1, 1) := by decide +kernel
theorem dJ2_getChars_46870_1 : decode cJ2_getChars_46870 1 = .ok (.iload_n 2, 1) := by decide +kernel
theorem dJ2_getChars_46870_2 : decode cJ2_getChars_46870 2 = .ok (.aload_n 3, 1) := by decide +kernel
theorem dJ2_getChars_46870_3 : decode cJ2_getChars_46870 3 = .ok (.invokestatic 96, 3) := by decide +kernel
theorem dJ2_getChars_46870_6 : decode cJ2_getChars_46870 6 = .ok (.iload_n 0, 1) := by decide +kernel
theorem dJ2_getChars_46870_7 : decode cJ2_getChars_46870 7 = .ok (.iload_n 2, 1) := by decide +kernel
theorem dJ2_getChars_46870_8 : decode cJ2_getChars_46870 8 = .ok (.aload_n 3, 1) := by decide +kernel
theorem dJ2_getChars_46870_9 : decode cJ2_getChars_46870 9 = .ok (.invokestatic 393, 3) := by decide +kernel
theorem dJ2_getChars_46870_12 : decode cJ2_getChars_46870 12 = .ok (.istore 4, 2) := by decide +kernel
theorem dJ2_getChars_46870_14 : decode cJ2_getChars_46870 14 = .ok (.getstatic 44, 3) := by decide +kernel
theorem dJ2_getChars_46870_17 : decode cJ2_getChars_46870 17 = .ok (.ifCond .ne 17, 3) := by decide +kernel
theorem dJ2_getChars_46870_20 : decode cJ2_getChars_46870 20 = .ok (.iload_n 1, 1) := by decide +kernel
theorem dJ2_getChars_46870_21 : decode cJ2_getChars_46870 21 = .ok (.iload 4, 2) := by decide +kernel
theorem dJ2_getChars_46870_23 : decode cJ2_getChars_46870 23 = .ok (.if_icmp .eq 11, 3) := by decide +kernel
theorem dJ2_getChars_46870_26 : decode cJ2_getChars_46870 26 = .ok (.new 52, 3) := by decide +kernel
theorem dJ2_getChars_46870_29 : decode cJ2_getChars_46870 29 = .ok (.dup, 1) := by decide +kernel
theorem dJ2_getChars_46870_30 : decode cJ2_getChars_46870 30 = .ok (.invokespecial 66, 3) := by decide +kernel
theorem dJ2_getChars_46870_33 : decode cJ2_getChars_46870 33 = .ok (.athrow, 1) := by decide +kernel
theorem dJ2_getChars_46870_34 : decode cJ2_getChars_46870 34 = .ok (.iload 4, 2) := by decide +kernel
theorem dJ2_getChars_46870_36 : decode cJ2_getChars_46870 36 = .ok (.ireturn, 1) := by decide +kernel
theorem dJ2_putCharsAt_cd4e5_0 : decode cJ2_putCharsAt_cd4e5 0 = .ok (.iload_n 1, 1) := by decide +kernel
theorem dJ2_putCharsAt_cd4e5_1 : decode cJ2_putCharsAt_cd4e5 1 = .ok (.iconst 4, 1) := by decide +kernel
theorem dJ2_putCharsAt_cd4e5_2 : decode cJ2_putCharsAt_cd4e5 2 = .ok (.iadd, 1) := by decide +kernel
theorem dJ2_putCharsAt_cd4e5_3 : decode cJ2_putCharsAt_cd4e5 3 = .ok (.istore 6, 2) := by decide +kernel
theorem dJ2_putCharsAt_cd4e5_5 : decode cJ2_putCharsAt_cd4e5 5 = .ok (.iload_n 1, 1) := by decide +kernel
theorem dJ2_putCharsAt_cd4e5_6 : decode cJ2_putCharsAt_cd4e5 6 = .ok (.iload 6, 2) := by decide +kernel
theorem dJ2_putCharsAt_cd4e5_8 : decode cJ2_putCharsAt_cd4e5 8 = .ok (.aload_n 0, 1) := by decide +kernel
theorem dJ2_putCharsAt_cd4e5_9 : decode cJ2_putCharsAt_cd4e5 9 = .ok (.invokestatic 96, 3) := by decide +kernel
theorem dJ2_putCharsAt_cd4e5_12 : decode cJ2_putCharsAt_cd4e5 12 = .ok (.aload_n 0, 1) := by decide +kernel
theorem dJ2_putCharsAt_cd4e5_13 : decode cJ2_putCharsAt_cd4e5 13 = .ok (.iload_n 1, 1) := by decide +kernel
theorem dJ2_putCharsAt_cd4e5_14 : decode cJ2_putCharsAt_cd4e5 14 = .ok (.iinc 1 1, 3) := by decide +kernel
theorem dJ2_putCharsAt_cd4e5_17 : decode cJ2_putCharsAt_cd4e5 17 = .ok (.iload_n 2, 1) := by decide +kernel
theorem dJ2_putCharsAt_cd4e5_18 : decode cJ2_putCharsAt_cd4e5 18 = .ok (.invokestatic 111, 3) := by decide +kernel
theorem dJ2_putCharsAt_cd4e5_21 : decode cJ2_putCharsAt_cd4e5 21 = .ok (.aload_n 0, 1) := by decide +kernel
theorem dJ2_putCharsAt_cd4e5_22 : decode cJ2_putCharsAt_cd4e5 22 = .ok (.iload_n 1, 1) := by decide +kernel
theorem dJ2_putCharsAt_cd4e5_23 : decode cJ2_putCharsAt_cd4e5 23 = .ok (.iinc 1 1, 3) := by decide +kernel
theorem dJ2_putCharsAt_cd4e5_26 : decode cJ2_putCharsAt_cd4e5 26 = .ok (.iload_n 3, 1) := by decide +kernel
theorem dJ2_putCharsAt_cd4e5_27 : decode cJ2_putCharsAt_cd4e5 27 = .ok (.invokestatic 111, 3) := by decide +kernel
theorem dJ2_putCharsAt_cd4e5_30 : decode cJ2_putCharsAt_cd4e5 30 = .ok (.aload_n 0, 1) := by decide +kernel
theorem dJ2_putCharsAt_cd4e5_31 : decode cJ2_putCharsAt_cd4e5 31 = .ok (.iload_n 1, 1) := by decide +kernel
theorem dJ2_putCharsAt_cd4e5_32 : decode cJ2_putCharsAt_cd4e5 32 = .ok (.iinc 1 1, 3) := by decide +kernel
theorem dJ2_putCharsAt_cd4e5_35 : decode cJ2_putCharsAt_cd4e5 35 = .ok (.iload 4, 2) := by decide +kernel
theorem dJ2_putCharsAt_cd4e5_37 : decode cJ2_putCharsAt_cd4e5 37 = .ok (.invokestatic 111, 3) := by decide +kernel
theorem dJ2_putCharsAt_cd4e5_40 : decode cJ2_putCharsAt_cd4e5 40 = .ok (.aload_n 0, 1) := by decide +kernel
theorem dJ2_putCharsAt_cd4e5_41 : decode cJ2_putCharsAt_cd4e5 41 = .ok (.iload_n 1, 1) := by decide +kernel
theorem dJ2_putCharsAt_cd4e5_42 : decode cJ2_putCharsAt_cd4e5 42 = .ok (.iinc 1 1, 3) := by decide +kernel
theorem dJ2_putCharsAt_cd4e5_45 : decode cJ2_putCharsAt_cd4e5 45 = .ok (.iload 5, 2) := by decide +kernel
theorem dJ2_putCharsAt_cd4e5_47 : decode cJ2_putCharsAt_cd4e5 47 = .ok (.invokestatic 111, 3) := by decide +kernel
theorem dJ2_putCharsAt_cd4e5_50 : decode cJ2_putCharsAt_cd4e5 50 = .ok (.getstatic 44, 3) := by decide +kernel
theorem dJ2_putCharsAt_cd4e5_53 : decode cJ2_putCharsAt_cd4e5 53 = .ok (.ifCond .ne 17, 3) := by decide +kernel
theorem dJ2_putCharsAt_cd4e5_56 : decode cJ2_putCharsAt_cd4e5 56 = .ok (.iload_n 1, 1) := by decide +kernel
theorem dJ2_putCharsAt_cd4e5_57 : decode cJ2_putCharsAt_cd4e5 57 = .ok (.iload 6, 2) := by decide +kernel
theorem dJ2_putCharsAt_cd4e5_59 : decode cJ2_putCharsAt_cd4e5 59 = .ok (.if_icmp .eq 11, 3) := by decide +kernel
theorem dJ2_putCharsAt_cd4e5_62 : decode cJ2_putCharsAt_cd4e5 62 = .ok (.new 52, 3) := by decide +kernel
theorem dJ2_putCharsAt_cd4e5_65 : decode cJ2_putCharsAt_cd4e5 65 = .ok (.dup, 1) := by decide +kernel
theorem dJ2_putCharsAt_cd4e5_66 : decode cJ2_putCharsAt_cd4e5 66 = .ok (.invokespecial 66, 3) := by decide +kernel
theorem dJ2_putCharsAt_cd4e5_69 : decode cJ2_putCharsAt_cd4e5 69 = .ok (.athrow, 1) := by decide +kernel
theorem dJ2_putCharsAt_cd4e5_70 : decode cJ2_putCharsAt_cd4e5 70 = .ok (.iload 6, 2) := by decide +kernel
theorem dJ2_putCharsAt_cd4e5_72 : decode cJ2_putCharsAt_cd4e5 72 = .ok (.ireturn, 1) := by decide +kernel
theorem dJ2_charAt_3b067_0 : decode cJ2_charAt_3b067 0 = .ok (.iload_n 1, 1) := by decide +kernel
theorem dJ2_charAt_3b067_1 : decode cJ2_charAt_3b067 1 = .ok (.aload_n 0, 1) := by decide +kernel
theorem dJ2_charAt_3b067_2 : decode cJ2_charAt_3b067 2 = .ok (.invokestatic 67, 3) := by decide +kernel
theorem dJ2_charAt_3b067_5 : decode cJ2_charAt_3b067 5 = .ok (.aload_n 0, 1) := by decide +kernel
theorem dJ2_charAt_3b067_6 : decode cJ2_charAt_3b067 6 = .ok (.iload_n 1, 1) := by decide +kernel
theorem dJ2_charAt_3b067_7 : decode cJ2_charAt_3b067 7 = .ok (.invokestatic 71, 3) := by decide +kernel
theorem dJ2_charAt_3b067_10 : decode cJ2_charAt_3b067 10 = .ok (.ireturn, 1) := by decide +kernel
theorem dJ2_inflate_0e8fd_0 : decode cJ2_inflate_0e8fd 0 = .ok (.iload_n 3, 1) := by decide +kernel
theorem dJ2_inflate_0e8fd_1 : decode cJ2_inflate_0e8fd 1 = .ok (.iload 4, 2) := by decide +kernel
theorem dJ2_inflate_0e8fd_3 : decode cJ2_inflate_0e8fd 3 = .ok (.aload_n 2, 1) := by decide +kernel
theorem dJ2_inflate_0e8fd_4 : decode cJ2_inflate_0e8fd 4 = .ok (.invokestatic 173, 3) := by decide +kernel
theorem dJ2_inflate_0e8fd_7 : decode cJ2_inflate_0e8fd 7 = .ok (.iconst 0, 1) := by decide +kernel
theorem dJ2_inflate_0e8fd_8 : decode cJ2_inflate_0e8fd 8 = .ok (.istore 5, 2) := by decide +kernel
theorem dJ2_inflate_0e8fd_10 : decode cJ2_inflate_0e8fd 10 = .ok (.iload 5, 2) := by decide +kernel
theorem dJ2_inflate_0e8fd_12 : decode cJ2_inflate_0e8fd 12 = .ok (.iload 4, 2) := by decide +kernel
theorem dJ2_inflate_0e8fd_14 : decode cJ2_inflate_0e8fd 14 = .ok (.if_icmp .ge 27, 3) := by decide +kernel
theorem dJ2_inflate_0e8fd_17 : decode cJ2_inflate_0e8fd 17 = .ok (.aload_n 2, 1) := by decide +kernel
theorem dJ2_inflate_0e8fd_18 : decode cJ2_inflate_0e8fd 18 = .ok (.iload_n 3, 1) := by decide +kernel
theorem dJ2_inflate_0e8fd_19 : decode cJ2_inflate_0e8fd 19 = .ok (.iinc 3 1, 3) := by decide +kernel
theorem dJ2_inflate_0e8fd_22 : decode cJ2_inflate_0e8fd 22 = .ok (.aload_n 0, 1) := by decide +kernel
theorem dJ2_inflate_0e8fd_23 : decode cJ2_inflate_0e8fd 23 = .ok (.iload_n 1, 1) := by decide +kernel
theorem dJ2_inflate_0e8fd_24 : decode cJ2_inflate_0e8fd 24 = .ok (.iinc 1 1, 3) := by decide +kernel
theorem dJ2_inflate_0e8fd_27 : decode cJ2_inflate_0e8fd 27 = .ok (.baload, 1) := by decide +kernel
theorem dJ2_inflate_0e8fd_28 : decode cJ2_inflate_0e8fd 28 = .ok (.sipush 255, 3) := by decide +kernel
theorem dJ2_inflate_0e8fd_31 : decode cJ2_inflate_0e8fd 31 = .ok (.iand, 1) := by decide +kernel
theorem dJ2_inflate_0e8fd_32 : decode cJ2_inflate_0e8fd 32 = .ok (.invokestatic 111, 3) := by decide +kernel
theorem dJ2_inflate_0e8fd_35 : decode cJ2_inflate_0e8fd 35 = .ok (.iinc 5 1, 3) := by decide +kernel
theorem dJ2_inflate_0e8fd_38 : decode cJ2_inflate_0e8fd 38 = .ok (.goto (-28), 3) := by decide +kernel
theorem dJ2_inflate_0e8fd_41 : decode cJ2_inflate_0e8fd 41 = .ok (.return_, 1) := by decide +kernel
theorem dJ2_getChars_ba4f3_0 : decode cJ2_getChars_ba4f3 0 = .ok (.iload_n 1, 1) := by decide +kernel
theorem dJ2_getChars_ba4f3_1 : decode cJ2_getChars_ba4f3 1 = .ok (.istore 5, 2) := by decide +kernel
theorem dJ2_getChars_ba4f3_3 : decode cJ2_getChars_ba4f3 3 = .ok (.iload_n 0, 1) := by decide +kernel
theorem dJ2_getChars_ba4f3_4 : decode cJ2_getChars_ba4f3 4 = .ok (.ifCond .ge 7, 3) := by decide +kernel
theorem dJ2_getChars_ba4f3_7 : decode cJ2_getChars_ba4f3 7 = .ok (.iconst 1, 1) := by decide +kernel
theorem dJ2_getChars_ba4f3_8 : decode cJ2_getChars_ba4f3 8 = .ok (.goto 4, 3) := by decide +kernel
theorem dJ2_getChars_ba4f3_11 : decode cJ2_getChars_ba4f3 11 = .ok (.iconst 0, 1) := by decide +kernel
theorem dJ2_getChars_ba4f3_12 : decode cJ2_getChars_ba4f3 12 = .ok (.istore 6, 2) := by decide +kernel
theorem dJ2_getChars_ba4f3_14 : decode cJ2_getChars_ba4f3 14 = .ok (.iload 6, 2) := by decide +kernel
theorem dJ2_getChars_ba4f3_16 : decode cJ2_getChars_ba4f3 16 = .ok (.ifCond .ne 6, 3) := by decide +kernel
theorem dJ2_getChars_ba4f3_19 : decode cJ2_getChars_ba4f3 19 = .ok (.iload_n 0, 1) := by decide +kernel
theorem dJ2_getChars_ba4f3_20 : decode cJ2_getChars_ba4f3 20 = .ok (.ineg, 1) := by decide +kernel
theorem dJ2_getChars_ba4f3_21 : decode cJ2_getChars_ba4f3 21 = .ok (.istore_n 0, 1) := by decide +kernel
theorem dJ2_getChars_ba4f3_22 : decode cJ2_getChars_ba4f3 22 = .ok (.iload_n 0, 1) := by decide +kernel
theorem dJ2_getChars_ba4f3_23 : decode cJ2_getChars_ba4f3 23 = .ok (.bipush (-100), 2) := by decide +kernel
theorem dJ2_getChars_ba4f3_25 : decode cJ2_getChars_ba4f3 25 = .ok (.if_icmp .gt 51, 3) := by decide +kernel
theorem dJ2_getChars_ba4f3_28 : decode cJ2_getChars_ba4f3 28 = .ok (.iload_n 0, 1) := by decide +kernel
theorem dJ2_getChars_ba4f3_29 : decode cJ2_getChars_ba4f3 29 = .ok (.bipush 100, 2) := by decide +kernel
theorem dJ2_getChars_ba4f3_31 : decode cJ2_getChars_ba4f3 31 = .ok (.idiv, 1) := by decide +kernel
theorem dJ2_getChars_ba4f3_32 : decode cJ2_getChars_ba4f3 32 = .ok (.istore_n 3, 1) := by decide +kernel
theorem dJ2_getChars_ba4f3_33 : decode cJ2_getChars_ba4f3 33 = .ok (.iload_n 3, 1) := by decide +kernel
theorem dJ2_getChars_ba4f3_34 : decode cJ2_getChars_ba4f3 34 = .ok (.bipush 100, 2) := by decide +kernel
theorem dJ2_getChars_ba4f3_36 : decode cJ2_getChars_ba4f3 36 = .ok (.imul, 1) := by decide +kernel
theorem dJ2_getChars_ba4f3_37 : decode cJ2_getChars_ba4f3 37 = .ok (.iload_n 0, 1) := by decide +kernel
theorem dJ2_getChars_ba4f3_38 : decode cJ2_getChars_ba4f3 38 = .ok (.isub, 1) := by decide +kernel
theorem dJ2_getChars_ba4f3_39 : decode cJ2_getChars_ba4f3 39 = .ok (.istore 4, 2) := by decide +kernel
theorem dJ2_getChars_ba4f3_41 : decode cJ2_getChars_ba4f3 41 = .ok (.iload_n 3, 1) := by decide +kernel
theorem dJ2_getChars_ba4f3_42 : decode cJ2_getChars_ba4f3 42 = .ok (.istore_n 0, 1) := by decide +kernel
theorem dJ2_getChars_ba4f3_43 : decode cJ2_getChars_ba4f3 43 = .ok (.aload_n 2, 1) := by decide +kernel
theorem dJ2_getChars_ba4f3_44 : decode cJ2_getChars_ba4f3 44 = .ok (.iinc 5 (-1), 3) := by decide +kernel
theorem dJ2_getChars_ba4f3_47 : decode cJ2_getChars_ba4f3 47 = .ok (.iload 5, 2) := by decide +kernel
theorem dJ2_getChars_ba4f3_49 : decode cJ2_getChars_ba4f3 49 = .ok (.getstatic 403, 3) := by decide +kernel
theorem dJ2_getChars_ba4f3_52 : decode cJ2_getChars_ba4f3 52 = .ok (.iload 4, 2) := by decide +kernel
theorem dJ2_getChars_ba4f3_54 : decode cJ2_getChars_ba4f3 54 = .ok (.baload, 1) := by decide +kernel
theorem dJ2_getChars_ba4f3_55 : decode cJ2_getChars_ba4f3 55 = .ok (.invokestatic 111, 3) := by decide +kernel
theorem dJ2_getChars_ba4f3_58 : decode cJ2_getChars_ba4f3 58 = .ok (.aload_n 2, 1) := by decide +kernel
theorem dJ2_getChars_ba4f3_59 : decode cJ2_getChars_ba4f3 59 = .ok (.iinc 5 (-1), 3) := by decide +kernel
theorem dJ2_getChars_ba4f3_62 : decode cJ2_getChars_ba4f3 62 = .ok (.iload 5, 2) := by decide +kernel
theorem dJ2_getChars_ba4f3_64 : decode cJ2_getChars_ba4f3 64 = .ok (.getstatic 407, 3) := by decide +kernel
theorem dJ2_getChars_ba4f3_67 : decode cJ2_getChars_ba4f3 67 = .ok (.iload 4, 2) := by decide +kernel
theorem dJ2_getChars_ba4f3_69 : decode cJ2_getChars_ba4f3 69 = .ok (.baload, 1) := by decide +kernel
theorem dJ2_getChars_ba4f3_70 : decode cJ2_getChars_ba4f3 70 = .ok (.invokestatic 111, 3) := by decide +kernel
theorem dJ2_getChars_ba4f3_73 : decode cJ2_getChars_ba4f3 73 = .ok (.goto (-51), 3) := by decide +kernel
theorem dJ2_getChars_ba4f3_76 : decode cJ2_getChars_ba4f3 76 = .ok (.aload_n 2, 1) := by decide +kernel
theorem dJ2_getChars_ba4f3_77 : decode cJ2_getChars_ba4f3 77 = .ok (.iinc 5 (-1), 3) := by decide +kernel
theorem dJ2_getChars_ba4f3_80 : decode cJ2_getChars_ba4f3 80 = .ok (.iload 5, 2) := by decide +kernel
theorem dJ2_getChars_ba4f3_82 : decode cJ2_getChars_ba4f3 82 = .ok (.getstatic 403, 3) := by decide +kernel
theorem dJ2_getChars_ba4f3_85 : decode cJ2_getChars_ba4f3 85 = .ok (.iload_n 0, 1) := by decide +kernel
theorem dJ2_getChars_ba4f3_86 : decode cJ2_getChars_ba4f3 86 = .ok (.ineg, 1) := by decide +kernel
theorem dJ2_getChars_ba4f3_87 : decode cJ2_getChars_ba4f3 87 = .ok (.baload, 1) := by decide +kernel
theorem dJ2_getChars_ba4f3_88 : decode cJ2_getChars_ba4f3 88 = .ok (.invokestatic 111, 3) := by decide +kernel
theorem dJ2_getChars_ba4f3_91 : decode cJ2_getChars_ba4f3 91 = .ok (.iload_n 0, 1) := by decide +kernel
theorem dJ2_getChars_ba4f3_92 : decode cJ2_getChars_ba4f3 92 = .ok (.bipush (-9), 2) := by decide +kernel
theorem dJ2_getChars_ba4f3_94 : decode cJ2_getChars_ba4f3 94 = .ok (.if_icmp .ge 18, 3) := by decide +kernel
theorem dJ2_getChars_ba4f3_97 : decode cJ2_getChars_ba4f3 97 = .ok (.aload_n 2, 1) := by decide +kernel
theorem dJ2_getChars_ba4f3_98 : decode cJ2_getChars_ba4f3 98 = .ok (.iinc 5 (-1), 3) := by decide +kernel
theorem dJ2_getChars_ba4f3_101 : decode cJ2_getChars_ba4f3 101 = .ok (.iload 5, 2) := by decide +kernel
theorem dJ2_getChars_ba4f3_103 : decode cJ2_getChars_ba4f3 103 = .ok (.getstatic 407, 3) := by decide +kernel
theorem dJ2_getChars_ba4f3_106 : decode cJ2_getChars_ba4f3 106 = .ok (.iload_n 0, 1) := by decide +kernel
theorem dJ2_getChars_ba4f3_107 : decode cJ2_getChars_ba4f3 107 = .ok (.ineg, 1) := by decide +kernel
theorem dJ2_getChars_ba4f3_108 : decode cJ2_getChars_ba4f3 108 = .ok (.baload, 1) := by decide +kernel
theorem dJ2_getChars_ba4f3_109 : decode cJ2_getChars_ba4f3 109 = .ok (.invokestatic 111, 3) := by decide +kernel
theorem dJ2_getChars_ba4f3_112 : decode cJ2_getChars_ba4f3 112 = .ok (.iload 6, 2) := by decide +kernel
theorem dJ2_getChars_ba4f3_114 : decode cJ2_getChars_ba4f3 114 = .ok (.ifCond .eq 14, 3) := by decide +kernel
theorem dJ2_getChars_ba4f3_117 : decode cJ2_getChars_ba4f3 117 = .ok (.aload_n 2, 1) := by decide +kernel
theorem dJ2_getChars_ba4f3_118 : decode cJ2_getChars_ba4f3 118 = .ok (.iinc 5 (-1), 3) := by decide +kernel
theorem dJ2_getChars_ba4f3_121 : decode cJ2_getChars_ba4f3 121 = .ok (.iload 5, 2) := by decide +kernel
theorem dJ2_getChars_ba4f3_123 : decode cJ2_getChars_ba4f3 123 = .ok (.bipush 45, 2) := by decide +kernel
theorem dJ2_getChars_ba4f3_125 : decode cJ2_getChars_ba4f3 125 = .ok (.invokestatic 111, 3) := by decide +kernel
theorem dJ2_getChars_ba4f3_128 : decode cJ2_getChars_ba4f3 128 = .ok (.iload 5, 2) := by decide +kernel
theorem dJ2_getChars_ba4f3_130 : decode cJ2_getChars_ba4f3 130 = .ok (.ireturn, 1) := by decide +kernel
theorem dJ2_checkIndex_2214a_0 : decode cJ2_checkIndex_2214a 0 = .ok (.iload_n 0, 1) := by decide +kernel
theorem dJ2_checkIndex_2214a_1 : decode cJ2_checkIndex_2214a 1 = .ok (.aload_n 1, 1) := by decide +kernel
theorem dJ2_checkIndex_2214a_2 : decode cJ2_checkIndex_2214a 2 = .ok (.invokestatic 48, 3) := by decide +kernel
theorem dJ2_checkIndex_2214a_5 : decode cJ2_checkIndex_2214a 5 = .ok (.invokestatic 414, 3) := by decide +kernel
theorem dJ2_checkIndex_2214a_8 : decode cJ2_checkIndex_2214a 8 = .ok (.return_, 1) := by decide +kernel
theorem dJ2_checkBoundsBeginEnd_d044e_0 : decode cJ2_checkBoundsBeginEnd_d044e 0 = .ok (.iload_n 0, 1) := by decide +kernel
theorem dJ2_checkBoundsBeginEnd_d044e_1 : decode cJ2_checkBoundsBeginEnd_d044e 1 = .ok (.iload_n 1, 1) := by decide +kernel
theorem dJ2_checkBoundsBeginEnd_d044e_2 : decode cJ2_checkBoundsBeginEnd_d044e 2 = .ok (.aload_n 2, 1) := by decide +kernel
theorem dJ2_checkBoundsBeginEnd_d044e_3 : decode cJ2_checkBoundsBeginEnd_d044e 3 = .ok (.invokestatic 48, 3) := by decide +kernel
theorem dJ2_checkBoundsBeginEnd_d044e_6 : decode cJ2_checkBoundsBeginEnd_d044e 6 = .ok (.invokestatic 241, 3) := by decide +kernel
theorem dJ2_checkBoundsBeginEnd_d044e_9 : decode cJ2_checkBoundsBeginEnd_d044e 9 = .ok (.return_, 1) := by decide +kernel
theorem dJ2_checkBoundsOffCount_d044e_0 : decode cJ2_checkBoundsOffCount_d044e 0 = .ok (.iload_n 0, 1) := by decide +kernel
theorem dJ2_checkBoundsOffCount_d044e_1 : decode cJ2_checkBoundsOffCount_d044e 1 = .ok (.iload_n 1, 1) := by decide +kernel
theorem dJ2_checkBoundsOffCount_d044e_2 : decode cJ2_checkBoundsOffCount_d044e 2 = .ok (.aload_n 2, 1) := by decide +kernel
theorem dJ2_checkBoundsOffCount_d044e_3 : decode cJ2_checkBoundsOffCount_d044e 3 = .ok (.invokestatic 48, 3) := by decide +kernel
theorem dJ2_checkBoundsOffCount_d044e_6 : decode cJ2_checkBoundsOffCount_d044e 6 = .ok (.invokestatic 419, 3) := by decide +kernel
theorem dJ2_checkBoundsOffCount_d044e_9 : decode cJ2_checkBoundsOffCount_d044e 9 = .ok (.pop, 1) := by decide +kernel
theorem dJ2_checkBoundsOffCount_d044e_10 : decode cJ2_checkBoundsOffCount_d044e 10 = .ok (.return_, 1) := by decide +kernel
theorem dJ7_rangeCheck_23922_0 : decode cJ7_rangeCheck_23922 0 = .ok (.iload_n 1, 1) := by decide +kernel
theorem dJ7_rangeCheck_23922_1 : decode cJ7_rangeCheck_23922 1 = .ok (.iload_n 2, 1) := by decide +kernel
theorem dJ7_rangeCheck_23922_2 : decode cJ7_rangeCheck_23922 2 = .ok (.if_icmp .le 44, 3) := by decide +kernel
theorem dJ7_rangeCheck_23922_5 : decode cJ7_rangeCheck_23922 5 = .ok (.new 43, 3) := by decide +kernel
theorem dJ7_rangeCheck_23922_8 : decode cJ7_rangeCheck_23922 8 = .ok (.dup, 1) := by decide +kernel
theorem dJ7_rangeCheck_23922_9 : decode cJ7_rangeCheck_23922 9 = .ok (.new 45, 3) := by decide +kernel
theorem dJ7_rangeCheck_23922_12 : decode cJ7_rangeCheck_23922 12 = .ok (.dup, 1) := by decide +kernel
theorem dJ7_rangeCheck_23922_13 : decode cJ7_rangeCheck_23922 13 = .ok (.invokespecial 47, 3) := by decide +kernel
theorem dJ7_rangeCheck_23922_16 : decode cJ7_rangeCheck_23922 16 = .ok (.ldc 48, 2) := by decide +kernel
theorem dJ7_rangeCheck_23922_18 : decode cJ7_rangeCheck_23922 18 = .ok (.invokevirtual 50, 3) := by decide +kernel
theorem dJ7_rangeCheck_23922_21 : decode cJ7_rangeCheck_23922 21 = .ok (.iload_n 1, 1) := by decide +kernel
theorem dJ7_rangeCheck_23922_22 : decode cJ7_rangeCheck_23922 22 = .ok (.invokevirtual 54, 3) := by decide +kernel
theorem dJ7_rangeCheck_23922_25 : decode cJ7_rangeCheck_23922 25 = .ok (.ldc 57, 2) := by decide +kernel
theorem dJ7_rangeCheck_23922_27 : decode cJ7_rangeCheck_23922 27 = .ok (.invokevirtual 50, 3) := by decide +kernel
theorem dJ7_rangeCheck_23922_30 : decode cJ7_rangeCheck_23922 30 = .ok (.iload_n 2, 1) := by decide +kernel
theorem dJ7_rangeCheck_23922_31 : decode cJ7_rangeCheck_23922 31 = .ok (.invokevirtual 54, 3) := by decide +kernel
theorem dJ7_rangeCheck_23922_34 : decode cJ7_rangeCheck_23922 34 = .ok (.ldc 59, 2) := by decide +kernel
theorem dJ7_rangeCheck_23922_36 : decode cJ7_rangeCheck_23922 36 = .ok (.invokevirtual 50, 3) := by decide +kernel
theorem dJ7_rangeCheck_23922_39 : decode cJ7_rangeCheck_23922 39 = .ok (.invokevirtual 61, 3) := by decide +kernel
theorem dJ7_rangeCheck_23922_42 : decode cJ7_rangeCheck_23922 42 = .ok (.invokespecial 65, 3) := by decide +kernel
theorem dJ7_rangeCheck_23922_45 : decode cJ7_rangeCheck_23922 45 = .ok (.athrow, 1) := by decide +kernel
theorem dJ7_rangeCheck_23922_46 : decode cJ7_rangeCheck_23922 46 = .ok (.iload_n 1, 1) := by decide +kernel
theorem dJ7_rangeCheck_23922_47 : decode cJ7_rangeCheck_23922 47 = .ok (.ifCond .ge 12, 3) := by decide +kernel
theorem dJ7_rangeCheck_23922_50 : decode cJ7_rangeCheck_23922 50 = .ok (.new 68, 3) := by decide +kernel
theorem dJ7_rangeCheck_23922_53 : decode cJ7_rangeCheck_23922 53 = .ok (.dup, 1) := by decide +kernel
theorem dJ7_rangeCheck_23922_54 : decode cJ7_rangeCheck_23922 54 = .ok (.iload_n 1, 1) := by decide +kernel
theorem dJ7_rangeCheck_23922_55 : decode cJ7_rangeCheck_23922 55 = .ok (.invokespecial 70, 3) := by decide +kernel
theorem dJ7_rangeCheck_23922_58 : decode cJ7_rangeCheck_23922 58 = .ok (.athrow, 1) := by decide +kernel
theorem dJ7_rangeCheck_23922_59 : decode cJ7_rangeCheck_23922 59 = .ok (.iload_n 2, 1) := by decide +kernel
theorem dJ7_rangeCheck_23922_60 : decode cJ7_rangeCheck_23922 60 = .ok (.iload_n 0, 1) := by decide +kernel
theorem dJ7_rangeCheck_23922_61 : decode cJ7_rangeCheck_23922 61 = .ok (.if_icmp .le 12, 3) := by decide +kernel
theorem dJ7_rangeCheck_23922_64 : decode cJ7_rangeCheck_23922 64 = .ok (.new 68, 3) := by decide +kernel
theorem dJ7_rangeCheck_23922_67 : decode cJ7_rangeCheck_23922 67 = .ok (.dup, 1) := by decide +kernel
theorem dJ7_rangeCheck_23922_68 : decode cJ7_rangeCheck_23922 68 = .ok (.iload_n 2, 1) := by decide +kernel
theorem dJ7_rangeCheck_23922_69 : decode cJ7_rangeCheck_23922 69 = .ok (.invokespecial 70, 3) := by decide +kernel
theorem dJ7_rangeCheck_23922_72 : decode cJ7_rangeCheck_23922 72 = .ok (.athrow, 1) := by decide +kernel
theorem dJ7_rangeCheck_23922_73 : decode cJ7_rangeCheck_23922 73 = .ok (.return_, 1) := by decide +kernel
theorem dJ7_fill_eb02e_0 : decode cJ7_fill_eb02e 0 = .ok (.aload_n 0, 1) := by decide +kernel
theorem dJ7_fill_eb02e_1 : decode cJ7_fill_eb02e 1 = .ok (.arraylength, 1) := by decide +kernel
theorem dJ7_fill_eb02e_2 : decode cJ7_fill_eb02e 2 = .ok (.iload_n 1, 1) := by decide +kernel
theorem dJ7_fill_eb02e_3 : decode cJ7_fill_eb02e 3 = .ok (.iload_n 2, 1) := by decide +kernel
theorem dJ7_fill_eb02e_4 : decode cJ7_fill_eb02e 4 = .ok (.invokestatic 13, 3) := by decide +kernel
theorem dJ7_fill_eb02e_7 : decode cJ7_fill_eb02e 7 = .ok (.iload_n 1, 1) := by decide +kernel
theorem dJ7_fill_eb02e_8 : decode cJ7_fill_eb02e 8 = .ok (.istore 4, 2) := by decide +kernel
theorem dJ7_fill_eb02e_10 : decode cJ7_fill_eb02e 10 = .ok (.iload 4, 2) := by decide +kernel
theorem dJ7_fill_eb02e_12 : decode cJ7_fill_eb02e 12 = .ok (.iload_n 2, 1) := by decide +kernel
theorem dJ7_fill_eb02e_13 : decode cJ7_fill_eb02e 13 = .ok (.if_icmp .ge 14, 3) := by decide +kernel
theorem dJ7_fill_eb02e_16 : decode cJ7_fill_eb02e 16 = .ok (.aload_n 0, 1) := by decide +kernel
theorem dJ7_fill_eb02e_17 : decode cJ7_fill_eb02e 17 = .ok (.iload 4, 2) := by decide +kernel
theorem dJ7_fill_eb02e_19 : decode cJ7_fill_eb02e 19 = .ok (.iload_n 3, 1) := by decide +kernel
theorem dJ7_fill_eb02e_20 : decode cJ7_fill_eb02e 20 = .ok (.bastore, 1) := by decide +kernel
theorem dJ7_fill_eb02e_21 : decode cJ7_fill_eb02e 21 = .ok (.iinc 4 1, 3) := by decide +kernel
theorem dJ7_fill_eb02e_24 : decode cJ7_fill_eb02e 24 = .ok (.goto (-14), 3) := by decide +kernel
theorem dJ7_fill_eb02e_27 : decode cJ7_fill_eb02e 27 = .ok (.return_, 1) := by decide +kernel
theorem dJ7_copyOf_9075b_0 : decode cJ7_copyOf_9075b 0 = .ok (.iload_n 1, 1) := by decide +kernel
theorem dJ7_copyOf_9075b_1 : decode cJ7_copyOf_9075b 1 = .ok (.aload_n 0, 1) := by decide +kernel
theorem dJ7_copyOf_9075b_2 : decode cJ7_copyOf_9075b 2 = .ok (.arraylength, 1) := by decide +kernel
theorem dJ7_copyOf_9075b_3 : decode cJ7_copyOf_9075b 3 = .ok (.if_icmp .ne 11, 3) := by decide +kernel
theorem dJ7_copyOf_9075b_6 : decode cJ7_copyOf_9075b 6 = .ok (.aload_n 0, 1) := by decide +kernel
theorem dJ7_copyOf_9075b_7 : decode cJ7_copyOf_9075b 7 = .ok (.invokevirtual 310, 3) := by decide +kernel
theorem dJ7_copyOf_9075b_10 : decode cJ7_copyOf_9075b 10 = .ok (.checkcast 311, 3) := by decide +kernel
theorem dJ7_copyOf_9075b_13 : decode cJ7_copyOf_9075b 13 = .ok (.areturn, 1) := by decide +kernel
theorem dJ7_copyOf_9075b_14 : decode cJ7_copyOf_9075b 14 = .ok (.iload_n 1, 1) := by decide +kernel
theorem dJ7_copyOf_9075b_15 : decode cJ7_copyOf_9075b 15 = .ok (.newarray .byte, 2) := by decide +kernel
theorem dJ7_copyOf_9075b_17 : decode cJ7_copyOf_9075b 17 = .ok (.astore_n 2, 1) := by decide +kernel
theorem dJ7_copyOf_9075b_18 : decode cJ7_copyOf_9075b 18 = .ok (.aload_n 0, 1) := by decide +kernel
theorem dJ7_copyOf_9075b_19 : decode cJ7_copyOf_9075b 19 = .ok (.iconst 0, 1) := by decide +kernel
theorem dJ7_copyOf_9075b_20 : decode cJ7_copyOf_9075b 20 = .ok (.aload_n 2, 1) := by decide +kernel
theorem dJ7_copyOf_9075b_21 : decode cJ7_copyOf_9075b 21 = .ok (.iconst 0, 1) := by decide +kernel
theorem dJ7_copyOf_9075b_22 : decode cJ7_copyOf_9075b 22 = .ok (.aload_n 0, 1) := by decide +kernel
theorem dJ7_copyOf_9075b_23 : decode cJ7_copyOf_9075b 23 = .ok (.arraylength, 1) := by decide +kernel
theorem dJ7_copyOf_9075b_24 : decode cJ7_copyOf_9075b 24 = .ok (.iload_n 1, 1) := by decide +kernel
theorem dJ7_copyOf_9075b_25 : decode cJ7_copyOf_9075b 25 = .ok (.invokestatic 304, 3) := by decide +kernel
theorem dJ7_copyOf_9075b_28 : decode cJ7_copyOf_9075b 28 = .ok (.invokestatic 150, 3) := by decide +kernel
theorem dJ7_copyOf_9075b_31 : decode cJ7_copyOf_9075b 31 = .ok (.aload_n 2, 1) := by decide +kernel
theorem dJ7_copyOf_9075b_32 : decode cJ7_copyOf_9075b 32 = .ok (.areturn, 1) := by decide +kernel
theorem dJ8_newLength_cabcc_0 : decode cJ8_newLength_cabcc 0 = .ok (.iload_n 0, 1) := by decide +kernel
theorem dJ8_newLength_cabcc_1 : decode cJ8_newLength_cabcc 1 = .ok (.iload_n 1, 1) := by decide +kernel
theorem dJ8_newLength_cabcc_2 : decode cJ8_newLength_cabcc 2 = .ok (.iload_n 2, 1) := by decide +kernel
theorem dJ8_newLength_cabcc_3 : decode cJ8_newLength_cabcc 3 = .ok (.invokestatic 194, 3) := by decide +kernel
theorem dJ8_newLength_cabcc_6 : decode cJ8_newLength_cabcc 6 = .ok (.iadd, 1) := by decide +kernel
theorem dJ8_newLength_cabcc_7 : decode cJ8_newLength_cabcc 7 = .ok (.istore_n 3, 1) := by decide +kernel
theorem dJ8_newLength_cabcc_8 : decode cJ8_newLength_cabcc 8 = .ok (.iconst 0, 1) := by decide +kernel
theorem dJ8_newLength_cabcc_9 : decode cJ8_newLength_cabcc 9 = .ok (.iload_n 3, 1) := by decide +kernel
theorem dJ8_newLength_cabcc_10 : decode cJ8_newLength_cabcc 10 = .ok (.if_icmp .ge 11, 3) := by decide +kernel
theorem dJ8_newLength_cabcc_13 : decode cJ8_newLength_cabcc 13 = .ok (.iload_n 3, 1) := by decide +kernel
theorem dJ8_newLength_cabcc_14 : decode cJ8_newLength_cabcc 14 = .ok (.ldc 200, 2) := by decide +kernel
theorem dJ8_newLength_cabcc_16 : decode cJ8_newLength_cabcc 16 = .ok (.if_icmp .gt 5, 3) := by decide +kernel
theorem dJ8_newLength_cabcc_19 : decode cJ8_newLength_cabcc 19 = .ok (.iload_n 3, 1) := by decide +kernel
theorem dJ8_newLength_cabcc_20 : decode cJ8_newLength_cabcc 20 = .ok (.ireturn, 1) := by decide +kernel
theorem dJ8_newLength_cabcc_21 : decode cJ8_newLength_cabcc 21 = .ok (.iload_n 0, 1) := by decide +kernel
theorem dJ8_newLength_cabcc_22 : decode cJ8_newLength_cabcc 22 = .ok (.iload_n 1, 1) := by decide +kernel
theorem dJ8_newLength_cabcc_23 : decode cJ8_newLength_cabcc 23 = .ok (.invokestatic 201, 3) := by decide +kernel
theorem dJ8_newLength_cabcc_26 : decode cJ8_newLength_cabcc 26 = .ok (.ireturn, 1) := by decide +kernel
theorem dJ8_hugeLength_7cf53_0 : decode cJ8_hugeLength_7cf53 0 = .ok (.iload_n 0, 1) := by decide +kernel
theorem dJ8_hugeLength_7cf53_1 : decode cJ8_hugeLength_7cf53 1 = .ok (.iload_n 1, 1) := by decide +kernel
theorem dJ8_hugeLength_7cf53_2 : decode cJ8_hugeLength_7cf53 2 = .ok (.iadd, 1) := by decide +kernel
theorem dJ8_hugeLength_7cf53_3 : decode cJ8_hugeLength_7cf53 3 = .ok (.istore_n 2, 1) := by decide +kernel
theorem dJ8_hugeLength_7cf53_4 : decode cJ8_hugeLength_7cf53 4 = .ok (.iload_n 2, 1) := by decide +kernel
theorem dJ8_hugeLength_7cf53_5 : decode cJ8_hugeLength_7cf53 5 = .ok (.ifCond .ge 44, 3) := by decide +kernel
theorem dJ8_hugeLength_7cf53_8 : decode cJ8_hugeLength_7cf53 8 = .ok (.new 204, 3) := by decide +kernel
theorem dJ8_hugeLength_7cf53_11 : decode cJ8_hugeLength_7cf53 11 = .ok (.dup, 1) := by decide +kernel
theorem dJ8_hugeLength_7cf53_12 : decode cJ8_hugeLength_7cf53 12 = .ok (.new 89, 3) := by decide +kernel
theorem dJ8_hugeLength_7cf53_15 : decode cJ8_hugeLength_7cf53 15 = .ok (.dup, 1) := by decide +kernel
theorem dJ8_hugeLength_7cf53_16 : decode cJ8_hugeLength_7cf53 16 = .ok (.invokespecial 91, 3) := by decide +kernel
theorem dJ8_hugeLength_7cf53_19 : decode cJ8_hugeLength_7cf53 19 = .ok (.ldc 206, 2) := by decide +kernel
theorem dJ8_hugeLength_7cf53_21 : decode cJ8_hugeLength_7cf53 21 = .ok (.invokevirtual 94, 3) := by decide +kernel
theorem dJ8_hugeLength_7cf53_24 : decode cJ8_hugeLength_7cf53 24 = .ok (.iload_n 0, 1) := by decide +kernel
theorem dJ8_hugeLength_7cf53_25 : decode cJ8_hugeLength_7cf53 25 = .ok (.invokevirtual 98, 3) := by decide +kernel
theorem dJ8_hugeLength_7cf53_28 : decode cJ8_hugeLength_7cf53 28 = .ok (.ldc 208, 2) := by decide +kernel
theorem dJ8_hugeLength_7cf53_30 : decode cJ8_hugeLength_7cf53 30 = .ok (.invokevirtual 94, 3) := by decide +kernel
theorem dJ8_hugeLength_7cf53_33 : decode cJ8_hugeLength_7cf53 33 = .ok (.iload_n 1, 1) := by decide +kernel
theorem dJ8_hugeLength_7cf53_34 : decode cJ8_hugeLength_7cf53 34 = .ok (.invokevirtual 98, 3) := by decide +kernel
theorem dJ8_hugeLength_7cf53_37 : decode cJ8_hugeLength_7cf53 37 = .ok (.ldc 210, 2) := by decide +kernel
theorem dJ8_hugeLength_7cf53_39 : decode cJ8_hugeLength_7cf53 39 = .ok (.invokevirtual 94, 3) := by decide +kernel
theorem dJ8_hugeLength_7cf53_42 : decode cJ8_hugeLength_7cf53 42 = .ok (.invokevirtual 101, 3) := by decide +kernel
theorem dJ8_hugeLength_7cf53_45 : decode cJ8_hugeLength_7cf53 45 = .ok (.invokespecial 212, 3) := by decide +kernel
theorem dJ8_hugeLength_7cf53_48 : decode cJ8_hugeLength_7cf53 48 = .ok (.athrow, 1) := by decide +kernel
theorem dJ8_hugeLength_7cf53_49 : decode cJ8_hugeLength_7cf53 49 = .ok (.iload_n 2, 1) := by decide +kernel
theorem dJ8_hugeLength_7cf53_50 : decode cJ8_hugeLength_7cf53 50 = .ok (.ldc 200, 2) := by decide +kernel
theorem dJ8_hugeLength_7cf53_52 : decode cJ8_hugeLength_7cf53 52 = .ok (.if_icmp .gt 6, 3) := by decide +kernel
theorem dJ8_hugeLength_7cf53_55 : decode cJ8_hugeLength_7cf53 55 = .ok (.ldc 200, 2) := by decide +kernel
theorem dJ8_hugeLength_7cf53_57 : decode cJ8_hugeLength_7cf53 57 = .ok (.ireturn, 1) := by decide +kernel
theorem dJ8_hugeLength_7cf53_58 : decode cJ8_hugeLength_7cf53 58 = .ok (.iload_n 2, 1) := by decide +kernel
theorem dJ8_hugeLength_7cf53_59 : decode cJ8_hugeLength_7cf53 59 = .ok (.ireturn, 1) := by decide +kernel
theorem dJ3_checkIndex_8e157_0 : decode cJ3_checkIndex_8e157 0 = .ok (.iload_n 0, 1) := by decide +kernel
theorem dJ3_checkIndex_8e157_1 : decode cJ3_checkIndex_8e157 1 = .ok (.ifCond .lt 8, 3) := by decide +kernel
theorem dJ3_checkIndex_8e157_4 : decode cJ3_checkIndex_8e157 4 = .ok (.iload_n 0, 1) := by decide +kernel
theorem dJ3_checkIndex_8e157_5 : decode cJ3_checkIndex_8e157 5 = .ok (.iload_n 1, 1) := by decide +kernel
theorem dJ3_checkIndex_8e157_6 : decode cJ3_checkIndex_8e157 6 = .ok (.if_icmp .lt 10, 3) := by decide +kernel
theorem dJ3_checkIndex_8e157_9 : decode cJ3_checkIndex_8e157 9 = .ok (.aload_n 2, 1) := by decide +kernel
theorem dJ3_checkIndex_8e157_10 : decode cJ3_checkIndex_8e157 10 = .ok (.iload_n 0, 1) := by decide +kernel
theorem dJ3_checkIndex_8e157_11 : decode cJ3_checkIndex_8e157 11 = .ok (.iload_n 1, 1) := by decide +kernel
theorem dJ3_checkIndex_8e157_12 : decode cJ3_checkIndex_8e157 12 = .ok (.invokestatic 95, 3) := by decide +kernel
theorem dJ3_checkIndex_8e157_15 : decode cJ3_checkIndex_8e157 15 = .ok (.athrow, 1) := by decide +kernel
theorem dJ3_checkIndex_8e157_16 : decode cJ3_checkIndex_8e157 16 = .ok (.iload_n 0, 1) := by decide +kernel
theorem dJ3_checkIndex_8e157_17 : decode cJ3_checkIndex_8e157 17 = .ok (.ireturn, 1) := by decide +kernel
theorem dJ3_checkFromToIndex_8c36e_0 : decode cJ3_checkFromToIndex_8c36e 0 = .ok (.iload_n 0, 1) := by decide +kernel
theorem dJ3_checkFromToIndex_8c36e_1 : decode cJ3_checkFromToIndex_8c36e 1 = .ok (.ifCond .lt 13, 3) := by decide +kernel
theorem dJ3_checkFromToIndex_8c36e_4 : decode cJ3_checkFromToIndex_8c36e 4 = .ok (.iload_n 0, 1) := by decide +kernel
theorem dJ3_checkFromToIndex_8c36e_5 : decode cJ3_checkFromToIndex_8c36e 5 = .ok (.iload_n 1, 1) := by decide +kernel
theorem dJ3_checkFromToIndex_8c36e_6 : decode cJ3_checkFromToIndex_8c36e 6 = .ok (.if_icmp .gt 8, 3) := by decide +kernel
theorem dJ3_checkFromToIndex_8c36e_9 : decode cJ3_checkFromToIndex_8c36e 9 = .ok (.iload_n 1, 1) := by decide +kernel
theorem dJ3_checkFromToIndex_8c36e_10 : decode cJ3_checkFromToIndex_8c36e 10 = .ok (.iload_n 2, 1) := by decide +kernel
theorem dJ3_checkFromToIndex_8c36e_11 : decode cJ3_checkFromToIndex_8c36e 11 = .ok (.if_icmp .le 11, 3) := by decide +kernel
theorem dJ3_checkFromToIndex_8c36e_14 : decode cJ3_checkFromToIndex_8c36e 14 = .ok (.aload_n 3, 1) := by decide +kernel
theorem dJ3_checkFromToIndex_8c36e_15 : decode cJ3_checkFromToIndex_8c36e 15 = .ok (.iload_n 0, 1) := by decide +kernel
theorem dJ3_checkFromToIndex_8c36e_16 : decode cJ3_checkFromToIndex_8c36e 16 = .ok (.iload_n 1, 1) := by decide +kernel
theorem dJ3_checkFromToIndex_8c36e_17 : decode cJ3_checkFromToIndex_8c36e 17 = .ok (.iload_n 2, 1) := by decide +kernel
theorem dJ3_checkFromToIndex_8c36e_18 : decode cJ3_checkFromToIndex_8c36e 18 = .ok (.invokestatic 99, 3) := by decide +kernel
theorem dJ3_checkFromToIndex_8c36e_21 : decode cJ3_checkFromToIndex_8c36e 21 = .ok (.athrow, 1) := by decide +kernel
theorem dJ3_checkFromToIndex_8c36e_22 : decode cJ3_checkFromToIndex_8c36e 22 = .ok (.iload_n 0, 1) := by decide +kernel
theorem dJ3_checkFromToIndex_8c36e_23 : decode cJ3_checkFromToIndex_8c36e 23 = .ok (.ireturn, 1) := by decide +kernel
theorem dJ3_checkFromIndexSize_8c36e_0 : decode cJ3_checkFromIndexSize_8c36e 0 = .ok (.iload_n 2, 1) := by decide +kernel
theorem dJ3_checkFromIndexSize_8c36e_1 : decode cJ3_checkFromIndexSize_8c36e 1 = .ok (.iload_n 0, 1) := by decide +kernel
theorem dJ3_checkFromIndexSize_8c36e_2 : decode cJ3_checkFromIndexSize_8c36e 2 = .ok (.ior, 1) := by decide +kernel
theorem dJ3_checkFromIndexSize_8c36e_3 : decode cJ3_checkFromIndexSize_8c36e 3 = .ok (.iload_n 1, 1) := by decide +kernel
theorem dJ3_checkFromIndexSize_8c36e_4 : decode cJ3_checkFromIndexSize_8c36e 4 = .ok (.ior, 1) := by decide +kernel
theorem dJ3_checkFromIndexSize_8c36e_5 : decode cJ3_checkFromIndexSize_8c36e 5 = .ok (.ifCond .lt 10, 3) := by decide +kernel
theorem dJ3_checkFromIndexSize_8c36e_8 : decode cJ3_checkFromIndexSize_8c36e 8 = .ok (.iload_n 1, 1) := by decide +kernel
theorem dJ3_checkFromIndexSize_8c36e_9 : decode cJ3_checkFromIndexSize_8c36e 9 = .ok (.iload_n 2, 1) := by decide +kernel
theorem dJ3_checkFromIndexSize_8c36e_10 : decode cJ3_checkFromIndexSize_8c36e 10 = .ok (.iload_n 0, 1) := by decide +kernel
theorem dJ3_checkFromIndexSize_8c36e_11 : decode cJ3_checkFromIndexSize_8c36e 11 = .ok (.isub, 1) := by decide +kernel
theorem dJ3_checkFromIndexSize_8c36e_12 : decode cJ3_checkFromIndexSize_8c36e 12 = .ok (.if_icmp .le 11, 3) := by decide +kernel
theorem dJ3_checkFromIndexSize_8c36e_15 : decode cJ3_checkFromIndexSize_8c36e 15 = .ok (.aload_n 3, 1) := by decide +kernel
theorem dJ3_checkFromIndexSize_8c36e_16 : decode cJ3_checkFromIndexSize_8c36e 16 = .ok (.iload_n 0, 1) := by decide +kernel
theorem dJ3_checkFromIndexSize_8c36e_17 : decode cJ3_checkFromIndexSize_8c36e 17 = .ok (.iload_n 1, 1) := by decide +kernel
theorem dJ3_checkFromIndexSize_8c36e_18 : decode cJ3_checkFromIndexSize_8c36e 18 = .ok (.iload_n 2, 1) := by decide +kernel
theorem dJ3_checkFromIndexSize_8c36e_19 : decode cJ3_checkFromIndexSize_8c36e 19 = .ok (.invokestatic 103, 3) := by decide +kernel
theorem dJ3_checkFromIndexSize_8c36e_22 : decode cJ3_checkFromIndexSize_8c36e 22 = .ok (.athrow, 1) := by decide +kernel
theorem dJ3_checkFromIndexSize_8c36e_23 : decode cJ3_checkFromIndexSize_8c36e 23 = .ok (.iload_n 0, 1) := by decide +kernel
theorem dJ3_checkFromIndexSize_8c36e_24 : decode cJ3_checkFromIndexSize_8c36e 24 = .ok (.ireturn, 1) := by decide +kernel
end
section
/-! OWN BASE: combinators of the mirrored functions, the contract's form, call rows -/
def zb {α β : Type} (x : Option α) (K : α → Option β) : Option β := x.bind K
theorem zb_s {α β : Type} {x : Option α} {K : α → Option β} {r : β} (h : zb x K = some r) : ∃ p, x = some p ∧ K p = some r := by
  cases x with
  | none => cases h
  | some p => exact ⟨p, rfl, h⟩
def zn {α β : Type} (x : α) (K : α → Option β) : Option β := K x
theorem zn_s {α β : Type} {x : α} {K : α → Option β} {r : β} (h : zn x K = some r) : ∃ y, y = x ∧ K y = some r := ⟨x, rfl, h⟩
def zg {β : Type} (n : Nat) (f : Nat → Int32) (i : Int32) (K : Int32 → Option β) : Option β := if i < 0 ∨ n ≤ i.toNatClampNeg then none else K (f i.toNatClampNeg)
theorem zg_s {β : Type} {n : Nat} {f : Nat → Int32} {i : Int32} {K : Int32 → Option β} {r : β} (h : zg n f i K = some r) : vp_in i n ∧ ∃ v, v = f i.toNatClampNeg ∧ K v = some r := by
  unfold zg at h
  by_cases c : i < 0 ∨ n ≤ i.toNatClampNeg
  · rw [if_pos c] at h; cases h
  · rw [if_neg c] at h; exact ⟨c, _, rfl, h⟩
def zs {β : Type} (n : Nat) (f : Nat → Int32) (i x : Int32) (K : (Nat → Int32) → Option β) : Option β := if i < 0 ∨ n ≤ i.toNatClampNeg then none else K (upd f i.toNatClampNeg x)
theorem zs_s {β : Type} {n : Nat} {f : Nat → Int32} {i x : Int32} {K : (Nat → Int32) → Option β} {r : β} (h : zs n f i x K = some r) : vp_in i n ∧ ∃ v, v = upd f i.toNatClampNeg x ∧ K v = some r := by
  unfold zs at h
  by_cases c : i < 0 ∨ n ≤ i.toNatClampNeg
  · rw [if_pos c] at h; cases h
  · rw [if_neg c] at h; exact ⟨c, _, rfl, h⟩
def zq {β : Type} (c : Prop) [Decidable c] (K : Option β) : Option β := if c then K else none
theorem zq_s {β : Type} {c : Prop} [Decidable c] {K : Option β} {r : β} (h : zq c K = some r) : c ∧ K = some r := by
  unfold zq at h
  by_cases hc : c
  · rw [if_pos hc] at h; exact ⟨hc, h⟩
  · rw [if_neg hc] at h; cases h
theorem zi_p {β : Type} {c : Prop} [Decidable c] {A B : Option β} {r : β} (h : (if c then A else B) = some r) (hc : c) : A = some r := by rw [if_pos hc] at h; exact h
theorem zi_n {β : Type} {c : Prop} [Decidable c] {A B : Option β} {r : β} (h : (if c then A else B) = some r) (hc : ¬ c) : B = some r := by rw [if_neg hc] at h; exact h
theorem zo {β : Type} {a r : β} (h : some a = some r) : r = a := (Option.some.inj h).symm
def zk {α β : Type} (f : α → Option β) (o : α ⊕ β) : Option β := match o with
  | .inl a => f a
  | .inr b => some b
def zl {α β : Type} : Nat → (α → Option (α ⊕ β)) → α → Option β
  | 0, _, _ => none
  | n + 1, B, a => zb (B a) (zk (zl n B))
theorem zl_0 {α β : Type} {B : α → Option (α ⊕ β)} {a : α} {r : β} (h : zl 0 B a = some r) : False := by cases h
theorem zl_s {α β : Type} {n : Nat} {B : α → Option (α ⊕ β)} {a : α} {r : β} (h : zl (n + 1) B a = some r) : ∃ o, B a = some o ∧ zk (zl n B) o = some r := zb_s h
theorem zk_l {α β : Type} {f : α → Option β} {a : α} {r : β} {o : α ⊕ β} (ho : some (Sum.inl a) = some o) (h : zk f o = some r) : f a = some r := by cases ho; exact h
theorem zk_r {α β : Type} {f : α → Option β} {b r : β} {o : α ⊕ β} (ho : some (Sum.inr b) = some o) (h : zk f o = some r) : r = b := by cases ho; exact (Option.some.inj h).symm
def zcmp (x y : Int64) : Int32 := lg_cmp x y
/-- class ids: int[], char[], byte[], Disk[]; static arrays: lowest, highest, first setting; DigitOnes, DigitTens; Strings and their bytes -/
abbrev zG : Type := (ClassId × ClassId × ClassId × ClassId) × (Nat × Nat × Nat) × (Nat × Nat) × (Nat → Nat) × (Nat → Nat)
abbrev zTY (G : zG) : List (ClassId × FieldType) := [(G.1.1, .int), (G.1.2.1, .char), (G.1.2.2.1, .byte), (G.1.2.2.2, .object "QuietChecks$Disk")]
def zW (y : MethodName) (cc : ByteArray) (n : Nat) (ret : Option FieldType) : List Cond := .code y cc n ret :: wsL_law
theorem zW_good : ∀ w ∈ wsL_law, (w.onTables && w.keeps) = true ∨ ∃ ty, w = .arrayClass ty := fun w h => good_of_word (List.all_eq_true.mp (by decide +kernel : wsL_law.all goodWord = true) w h)
def zNest : List Cond := [
  .methodLinkNest "QuietChecks$Disk" 20 ⟨"QuietChecks$Spots", "<init>", "()V"⟩ "QuietChecks", .methodLinkNest "QuietChecks$Disk" 27 ⟨"QuietChecks$Asked", "<init>", "()V"⟩ "QuietChecks",
  .methodLinkNest "QuietChecks$Disk" 34 ⟨"QuietChecks$Log", "<init>", "()V"⟩ "QuietChecks", .methodLinkNest "QuietChecks" 28 ⟨"QuietChecks$Plan", "<init>", "()V"⟩ "QuietChecks",
  .methodLinkNest "QuietChecks$Disk" 95 ⟨"QuietChecks", "isSetting", "(I)Z"⟩ "QuietChecks", .methodLinkNest "QuietChecks$Disk" 105 ⟨"QuietChecks", "isSpan", "(I)Z"⟩ "QuietChecks",
  .fieldLinkNest "QuietChecks$Disk" 182 "QuietChecks$Spots" "spans" "[I" "QuietChecks", .fieldLinkNest "QuietChecks$Disk" 183 "QuietChecks$Spots" "tries" "[I" "QuietChecks",
  .fieldLinkNest "QuietChecks$Disk" 181 "QuietChecks$Spots" "size" "I" "QuietChecks", .fieldLinkNest "QuietChecks$Disk" 157 "QuietChecks$Asked" "spans" "[I" "QuietChecks",
  .fieldLinkNest "QuietChecks$Disk" 121 "QuietChecks$Asked" "size" "I" "QuietChecks", .fieldLinkNest "QuietChecks" 107 "QuietChecks$Log" "size" "I" "QuietChecks",
  .fieldLinkNest "QuietChecks$Disk" 76 "QuietChecks" "FIRST_SETTING" "[I" "QuietChecks", .fieldLinkNest "QuietChecks" 84 "QuietChecks$Disk" "settings" "[I" "QuietChecks",
  .fieldLinkNest "QuietChecks" 94 "QuietChecks$Disk" "spots" "LQuietChecks$Spots;" "QuietChecks", .fieldLinkNest "QuietChecks" 103 "QuietChecks$Disk" "log" "LQuietChecks$Log;" "QuietChecks",
  .fieldLinkNest "QuietChecks" 148 "QuietChecks$Disk" "way" "I" "QuietChecks", .fieldLinkNest "QuietChecks" 230 "QuietChecks$Plan" "kinds" "[I" "QuietChecks",
  .fieldLinkNest "QuietChecks" 224 "QuietChecks$Plan" "firsts" "[I" "QuietChecks", .fieldLinkNest "QuietChecks" 227 "QuietChecks$Plan" "seconds" "[I" "QuietChecks",
  .fieldLinkNest "QuietChecks" 163 "QuietChecks$Plan" "commands" "I" "QuietChecks", .fieldLinkNest "QuietChecks$Disk" 99 "QuietChecks" "LOWEST_SETTING" "[I" "QuietChecks",
  .fieldLinkNest "QuietChecks$Disk" 102 "QuietChecks" "HIGHEST_SETTING" "[I" "QuietChecks"]
def zIsNest : Cond → Bool
  | .fieldLinkNest .. => true
  | .methodLinkNest .. => true
  | _ => false
theorem zNest_warm {w : Cond} (hn : zIsNest w = true) {s U : State} (hW : s.WarmedH U.vm) (h : va_Nw w s) : va_Nw w U := by
  cases w <;> first | exact va_Nw.warmF hW h | exact va_Nw.warmM hW h | cases hn
theorem zNest_same {w : Cond} (hn : zIsNest w = true) {u U : State} (hv : u.vm = U.vm) (h : va_Nw w u) : va_Nw w U := by
  cases w <;> first | exact va_Nw.same rfl hv h | cases hn
/-- the Strings of the class: owner, entry, text, bytes -/
def zStr : List (String × Nat × String × List Int32) := [
  ("QuietChecks", 233, "begins", [98, 101, 103, 105, 110, 115]), ("QuietChecks", 235, "pauses", [112, 97, 117, 115, 101, 115]), ("QuietChecks", 237, "ends", [101, 110, 100, 115]),
  ("QuietChecks", 239, "replaced", [114, 101, 112, 108, 97, 99, 101, 100]), ("QuietChecks", 241, "stays", [115, 116, 97, 121, 115]), ("QuietChecks", 243, "slow", [115, 108, 111, 119]),
  ("QuietChecks$Plan", 50, "read ", [114, 101, 97, 100, 32]), ("QuietChecks$Plan", 70, "quiet ", [113, 117, 105, 101, 116, 32]), ("QuietChecks$Plan", 72, "ask ", [97, 115, 107, 32]),
  ("QuietChecks$Plan", 74, "spot ", [115, 112, 111, 116, 32]), ("QuietChecks$Plan", 80, "way ", [119, 97, 121, 32]), ("QuietChecks$Plan", 94, "oldest", [111, 108, 100, 101, 115, 116]),
  ("QuietChecks$Plan", 96, "worst", [119, 111, 114, 115, 116]), ("QuietChecks$Plan", 98, "row", [114, 111, 119])]
def zStrB (k : Nat) : List Int32 := ((zStr[k]?).map (fun q => q.2.2.2)).getD []
def zLow (k : Nat) : Value := .int (([0, 1, 1, 2, 50] : List Int32).getD k 0)
def zHigh (k : Nat) : Value := .int (([50, 40, 9, 9, 2000] : List Int32).getD k 0)
def zFirst (k : Nat) : Value := .int (([5, 10, 3, 5, 400] : List Int32).getD k 0)
def zOnes (k : Nat) : Value := .int (nI (48 + k % 10))
def zTens (k : Nat) : Value := .int (nI (48 + k / 10))
/-- what holds of the machine's own tables, statics and String constants, apart from the cells in A -/
def zF (G : zG) (A : Nat → Prop) (U : State) (H : Heap) : Prop :=
  (∀ w ∈ zNest, va_Nw w U) ∧
  (va_Z "QuietChecks" "LOWEST_SETTING" "[I" (.ref G.2.1.1) A U H ∧ va_T .int G.2.1.1 5 zLow A U H) ∧
  (va_Z "QuietChecks" "HIGHEST_SETTING" "[I" (.ref G.2.1.2.1) A U H ∧ va_T .int G.2.1.2.1 5 zHigh A U H) ∧
  (va_Z "QuietChecks" "FIRST_SETTING" "[I" (.ref G.2.1.2.2) A U H ∧ va_T .int G.2.1.2.2 5 zFirst A U H) ∧
  (va_Z "java/lang/Integer" "DigitOnes" "[B" (.ref G.2.2.1.1) A U H ∧ va_T .byte G.2.2.1.1 100 zOnes A U H) ∧
  (va_Z "java/lang/Integer" "DigitTens" "[B" (.ref G.2.2.1.2) A U H ∧ va_T .byte G.2.2.1.2 100 zTens A U H) ∧
  va_Z "java/lang/String" "COMPACT_STRINGS" "Z" (.int 1) A U H ∧
  va_Zq "jdk/internal/util/Preconditions" "SIOOBE_FORMATTER" "Ljava/util/function/BiFunction;" A U H ∧
  vk_S 14 (zStr.map (fun q => q.2.2.2.length)) (zStr.map (fun q => q.2.2.2)) G.2.2.2.1 G.2.2.2.2 A U H ∧
  (∀ (k : Nat) (q : String × Nat × String × List Int32), zStr[k]? = some q → vk_R q.1 q.2.1 q.2.2.1 (G.2.2.2.1 k) U)
theorem va_Zq.moved' {C n d : String} {A : Nat → Prop} {u U : State} {H : Heap} (hvm : u.vm.Alike U.vm) (h : va_Zq C n d A u H) : va_Zq C n d A U H := h.elim (fun h => Or.inl (h.moved hvm)) (fun ⟨t, h⟩ => Or.inr ⟨t, h.moved hvm⟩)
theorem va_Zq.kept' {C n d : String} {A : Nat → Prop} {U : State} {H H1 : Heap} (h : va_Zq C n d A U H) (hq : ∀ a : Nat, a < H.size → ¬ A a → H1[a]? = H[a]?) : va_Zq C n d A U H1 := h.elim (fun h => Or.inl (h.kept hq)) (fun ⟨t, h⟩ => Or.inr ⟨t, h.kept hq⟩)
theorem va_Zq.narrow' {C n d : String} {A B : Nat → Prop} {U : State} {H : Heap} (h : va_Zq C n d A U H) (hAB : ∀ q, B q → A q) : va_Zq C n d B U H := h.elim (fun h => Or.inl (h.narrow hAB)) (fun ⟨t, h⟩ => Or.inr ⟨t, h.narrow hAB⟩)
theorem zF_kept {G : zG} {A : Nat → Prop} {U : State} {H H1 : Heap} (h : zF G A U H) (hq : ∀ a : Nat, a < H.size → ¬ A a → H1[a]? = H[a]?) : zF G A U H1 := by
  obtain ⟨h1, ⟨a1, a2⟩, ⟨b1, b2⟩, ⟨c1, c2⟩, ⟨d1, d2⟩, ⟨e1, e2⟩, h7, h8, h9, h10⟩ := h
  exact ⟨h1, ⟨a1.kept hq, a2.kept hq⟩, ⟨b1.kept hq, b2.kept hq⟩, ⟨c1.kept hq, c2.kept hq⟩, ⟨d1.kept hq, d2.kept hq⟩, ⟨e1.kept hq, e2.kept hq⟩, h7.kept hq, h8.kept' hq, h9.kept hq, h10⟩
theorem zF_narrow {G : zG} {A B : Nat → Prop} {U : State} {H : Heap} (h : zF G A U H) (hq : ∀ q, B q → A q) : zF G B U H := by
  obtain ⟨h1, ⟨a1, a2⟩, ⟨b1, b2⟩, ⟨c1, c2⟩, ⟨d1, d2⟩, ⟨e1, e2⟩, h7, h8, h9, h10⟩ := h
  exact ⟨h1, ⟨a1.narrow hq, a2.narrow hq⟩, ⟨b1.narrow hq, b2.narrow hq⟩, ⟨c1.narrow hq, c2.narrow hq⟩, ⟨d1.narrow hq, d2.narrow hq⟩, ⟨e1.narrow hq, e2.narrow hq⟩, h7.narrow hq, h8.narrow' hq, h9.narrow hq, h10⟩
theorem zNest_all : ∀ w ∈ zNest, zIsNest w = true := by decide +kernel
theorem zF_warm {G : zG} {A : Nat → Prop} {s U : State} {H : Heap} (hW : s.WarmedH U.vm) (h : zF G A s H) : zF G A U H := by
  obtain ⟨h1, ⟨a1, a2⟩, ⟨b1, b2⟩, ⟨c1, c2⟩, ⟨d1, d2⟩, ⟨e1, e2⟩, h7, h8, h9, h10⟩ := h
  have hq := hW.alike
  exact ⟨fun w hw => zNest_warm (zNest_all w hw) hW (h1 w hw), ⟨a1.moved hq, a2.moved hq⟩, ⟨b1.moved hq, b2.moved hq⟩, ⟨c1.moved hq, c2.moved hq⟩, ⟨d1.moved hq, d2.moved hq⟩, ⟨e1.moved hq, e2.moved hq⟩, h7.moved hq, h8.moved' hq, h9.moved hq, fun k q hk => (h10 k q hk).warm hW⟩
theorem zF_same {G : zG} {A : Nat → Prop} {u U : State} {H : Heap} (hv : U.vm = u.vm) (h : zF G A u H) : zF G A U H := by
  obtain ⟨h1, ⟨a1, a2⟩, ⟨b1, b2⟩, ⟨c1, c2⟩, ⟨d1, d2⟩, ⟨e1, e2⟩, h7, h8, h9, h10⟩ := h
  have hq : u.vm.Alike U.vm := by rw [hv]; exact Vm.Alike.refl u.vm
  exact ⟨fun w hw => zNest_same (zNest_all w hw) hv.symm (h1 w hw), ⟨a1.moved hq, a2.moved hq⟩, ⟨b1.moved hq, b2.moved hq⟩, ⟨c1.moved hq, c2.moved hq⟩, ⟨d1.moved hq, d2.moved hq⟩, ⟨e1.moved hq, e2.moved hq⟩, h7.moved hq, h8.moved' hq, h9.moved hq, fun k q hk => (h10 k q hk).same hv⟩
/-- permutations of worlds -/
theorem z_perm_get {ws ws' : va_W} (h : ws.Perm ws') {k : Nat} {q : Nat × va_E} (hk : ws'[k]? = some q) : ∃ i : Nat, ws[i]? = some q := List.getElem?_of_mem (h.mem_iff.mpr (List.mem_of_getElem? hk))
theorem zP_perm {D : va_G} {cl : List vw_C} {ws ws' : va_W} {H : Heap} (hp : ws.Perm ws') (h : va_P D cl ws H) : va_P D cl ws' H := fun k q hk => by
  obtain ⟨i, hi⟩ := z_perm_get hp hk
  exact h i q hi
theorem zD_nodup {A : Nat → Prop} {ws : va_W} : va_D A ws ↔ (ws.map Prod.fst).Nodup ∧ ∀ q ∈ ws, A q.1 := by
  constructor
  · intro h
    refine ⟨?_, fun q hq => ?_⟩
    · refine List.pairwise_iff_getElem.mpr (fun i j hi hj hij he => ?_)
      rw [List.length_map] at hi hj
      rw [List.getElem_map, List.getElem_map] at he
      have := h.1 i j _ _ (List.getElem?_eq_getElem hi) (List.getElem?_eq_getElem hj) he
      omega
    · obtain ⟨i, hi⟩ := List.getElem?_of_mem hq
      exact h.2 i q hi
  · rintro ⟨h1, h2⟩
    refine ⟨fun i j p q hi hj hpq => ?_, fun k q hk => h2 q (List.mem_of_getElem? hk)⟩
    have hi' := (List.getElem?_eq_some_iff.mp hi).1
    exact (List.getElem?_inj (by rw [List.length_map]; exact hi') h1).mp (by rw [List.getElem?_map, List.getElem?_map, hi, hj, Option.map_some, Option.map_some, hpq])
theorem zD_perm {A : Nat → Prop} {ws ws' : va_W} (hp : ws.Perm ws') (h : va_D A ws) : va_D A ws' := by
  rw [zD_nodup] at h ⊢
  exact ⟨(hp.map Prod.fst).nodup_iff.mp h.1, fun q hq => h.2 q (hp.mem_iff.mpr hq)⟩
theorem zD_left {A : Nat → Prop} {w1 w2 : va_W} (h : va_D A (w1 ++ w2)) : va_D A w1 := by
  rw [zD_nodup] at h ⊢
  rw [List.map_append] at h
  exact ⟨(List.nodup_append.mp h.1).1, fun q hq => h.2 q (List.mem_append_left _ hq)⟩
theorem zP_left {D : va_G} {cl : List vw_C} {w1 w2 : va_W} {H : Heap} (h : va_P D cl (w1 ++ w2) H) : va_P D cl w1 H := fun k q hk => h k q (by rw [List.getElem?_append_left (List.getElem?_eq_some_iff.mp hk).1]; exact hk)
theorem zP_right {D : va_G} {cl : List vw_C} {w1 w2 : va_W} {H : Heap} (h : va_P D cl (w1 ++ w2) H) : va_P D cl w2 H := zP_left (zP_perm List.perm_append_comm h)
/-- behind a call: the callee's cells, and the rest -/
theorem z_join {A0 : Nat → Prop} {D : va_G} {cl : List vw_C} {wc wr w1 : va_W} {H H1 : Heap} (hP : va_P D cl (wc ++ wr) H) (hD : va_D A0 (wc ++ wr))
    (hk : ∀ q : Nat, q < H.size → ¬ va_A wc H.size q → H1[q]? = H[q]?) (hF : ∀ q, va_A wc H.size q → A0 q) (hP1 : va_P D cl w1 H1) (hD1 : va_D (va_A wc H.size) w1) : va_P D cl (w1 ++ wr) H1 ∧ va_D A0 (w1 ++ wr) := by
  have hPr := zP_right hP
  have hN := hD
  rw [zD_nodup, List.map_append, List.nodup_append] at hN
  have apart : ∀ (k : Nat) (q : Nat × va_E), wr[k]? = some q → q.1 < H.size ∧ ¬ va_A wc H.size q.1 := by
    intro k q hq
    have hl := (hPr k q hq).lt
    refine ⟨hl, fun h => ?_⟩
    rcases h with ⟨i, e, h⟩ | h
    · exact hN.1.2.2 q.1 (List.mem_map.mpr ⟨_, List.mem_of_getElem? h, rfl⟩) q.1 (List.mem_map.mpr ⟨_, List.mem_of_getElem? hq, rfl⟩) rfl
    · omega
  refine ⟨va_P.app hP1 (fun k q hq => (hPr k q hq).kept (hk q.1 (apart k q hq).1 (apart k q hq).2)), va_D.app (hD1.weaken (fun k q _ h => hF q.1 h)) (zD_left (zD_perm List.perm_append_comm hD)) (fun i j x y hx hy hxy => ?_)⟩
  exact (apart j y hy).2 (by rw [← hxy]; exact hD1.2 i x hx)
theorem z_free {A0 : Nat → Prop} {wc wr : va_W} {H0 H : Heap} {locs : List Loc} (hD : va_D A0 (wc ++ wr)) (hS : va_S A0 H0 H locs) (hA : ∀ q, H0.size ≤ q → A0 q) : ∀ q, va_A wc H.size q → A0 q := by
  intro q h
  rcases h with ⟨k, e, h⟩ | h
  · exact (zD_left hD).2 k _ h
  · exact hA q (Nat.le_trans hS.1 h)
def zPre (D : va_G) (G : zG) (sz : Nat) (ws : va_W) (U : State) : Prop := U.heap.size = sz ∧ va_P D vwCl ws U.heap ∧ va_K D vwCl (zTY G) U ∧ va_D (fun _ => True) ws ∧ zF G (va_A ws sz) U U.heap
def zPost (D : va_G) (G : zG) (sz : Nat) (ws ws' : va_W) (t : State) : Prop := va_P D vwCl ws' t.heap ∧ va_K D vwCl (zTY G) t ∧ va_D (va_A ws sz) ws'
theorem zPre_blind {D : va_G} {G : zG} {sz : Nat} {ws : va_W} {av : List Value} : FrameBlind (va_Pc av (zPre D G sz ws)) := fun a U g mk q => by
  obtain ⟨q0, q1, q2, q3, q4, q5⟩ := q
  exact ⟨q0, q1, q2, va_K.moved (u := U) (U := U.calling g mk a) (Vm.Alike.refl U.vm) q3, q4, zF_same (u := U) rfl q5⟩
def zQi (D : va_G) (G : zG) (ws ws' : va_W) (r : Int32) (sz : Nat) : Array Value → State → Outcome → State → Prop := va_Qi (fun (x : Int32) (_ : Unit) => x = r) (fun _ t => zPost D G sz ws ws' t) (va_A ws sz)
def zQl (D : va_G) (G : zG) (ws ws' : va_W) (r : Int64) (sz : Nat) : Array Value → State → Outcome → State → Prop := va_Ql (fun (x : Int64) (_ : Unit) => x = r) (fun _ t => zPost D G sz ws ws' t) (va_A ws sz)
def zQv (D : va_G) (G : zG) (ws ws' : va_W) (sz : Nat) : Array Value → State → Outcome → State → Prop := va_Qv (fun (_ : Unit) => True) (fun _ t => zPost D G sz ws ws' t) (va_A ws sz)
abbrev zRm (f L : Nat) : Room := { frames := f, cells := 0, slots := 0, locals := L }
/-- a contract: from the cells ws to the cells ws', with the answer r -/
def zMi (l : Launch) (y : MethodName) (cc : ByteArray) (n : Nat) (ret : Option FieldType) (f L : Nat) (D : va_G) (G : zG) (ws ws' : va_W) (av : List Value) (r : Int32) : Prop := ∀ sz, Met l y (zW y cc n ret) (zRm f L) (va_Pc av (zPre D G sz ws)) (zQi D G ws ws' r sz) 0 0 (va_A ws sz)
def zMl (l : Launch) (y : MethodName) (cc : ByteArray) (n : Nat) (ret : Option FieldType) (f L : Nat) (D : va_G) (G : zG) (ws ws' : va_W) (av : List Value) (r : Int64) : Prop := ∀ sz, Met l y (zW y cc n ret) (zRm f L) (va_Pc av (zPre D G sz ws)) (zQl D G ws ws' r sz) 0 0 (va_A ws sz)
def zMv (l : Launch) (y : MethodName) (cc : ByteArray) (n : Nat) (ret : Option FieldType) (f L : Nat) (D : va_G) (G : zG) (ws ws' : va_W) (av : List Value) : Prop := ∀ sz, Met l y (zW y cc n ret) (zRm f L) (va_Pc av (zPre D G sz ws)) (zQv D G ws ws' sz) 0 0 (va_A ws sz)
end
section
/-! CALLS, STARTS, ENDS over the contract's form -/
def zCx (p : Program) (s : State) (m : MethodId) (args : Array Value) (meth : Method) (c : Code) (cc : ByteArray) (nL : Nat) (ret : Option FieldType) (own : String) (D : va_G) (G : zG) (A : Nat → Prop) : Prop :=
  p.tables.exec = Jvm.exec ∧ c.code = cc ∧ c.maxLocals = nL ∧ s.vm.findClass own = some m.cls ∧ (∀ w ∈ wsL_law, w.before args s = true) ∧ va_K D vwCl (zTY G) s ∧ meth.locks = false ∧ zF G A s s.heap ∧ meth.sig.returnType = ret ∧ (∀ q, s.heap.size ≤ q → A q)
theorem z_ofWF {l : Launch} {y : MethodName} {ws ws' : List Cond} {rm : Room} {Pc : Array Value → State → Prop} {Qc : Array Value → State → Outcome → State → Prop} {mc ms : Nat} {free : Addr → Prop} {cc : ByteArray} {maxL : Nat} {ret : Option FieldType}
    (hy : plainFor y = true) (hw : ws = Cond.code y cc maxL ret :: ws')
    (body : ∀ p e s m args below meth c s₁, BodyLoose p l y (headSpec ws rm) cc maxL ret e s m args below meth c s₁ → c.maxLocals = maxL → Pc args s →
      W p l e (headSpec ws rm).room s m args below meth c s.heap [] 0 0 (MQ below Qc args s mc ms free) (entryFrame m args maxL)) : Met l y ws rm Pc Qc mc ms free := by
  refine MetFree.of_bodySF (code := cc) (maxLocals := maxL) (ret := ret) hy ?_ ?_
  · intro args s m h hn
    obtain ⟨meth, c, h1, h2, h3, h4, h5, h6, -, -⟩ := Cond.code_spec hn (atoms_spec (ws := ws) h _ (by rw [hw]; exact List.mem_cons_self))
    exact ⟨meth, c, h1, h2, h3, h4, h5, h6⟩
  · intro p e s m args below meth c s₁ B hml hP _
    have hh0 : s₁.heap = s.heap := by rw [B.state]; rfl
    obtain ⟨t, a1, o, b1, b2, b3⟩ := body p e s m args below meth c s₁ B hml hP s₁ hh0 (Stand.of_body B)
    exact ⟨t, o, a1, b1, b2, ⟨b3.1, b3.2⟩⟩
theorem z_start {l : Launch} {y : MethodName} {cc : ByteArray} {n : Nat} {ret : Option FieldType} {f L : Nat} {D : va_G} {G : zG} {ws : va_W} {av : List Value} {Qc : Nat → Array Value → State → Outcome → State → Prop} (hy : plainFor y = true) (hn : (lg_sl av).length ≤ n)
    (body : ∀ (p : Program) (e : Env) (s : State) (m : MethodId) (below : List Frame) (meth : Method) (c : Code) (H : Heap) (ls : Array Slot), zCx p s m av.toArray meth c cc n ret y.cls D G (va_A ws s.heap.size) → va_P D vwCl ws H → va_D (va_A ws s.heap.size) ws → va_S (va_A ws s.heap.size) s.heap H [] → lv_has ls n (lv_args 0 av) → W p l e (zRm f L) s m av.toArray below meth c H [] 0 0 (MQ below (Qc s.heap.size) av.toArray s 0 0 (va_A ws s.heap.size)) (F0 m 0 ls [])) :
    ∀ sz, Met l y (zW y cc n ret) (zRm f L) (va_Pc av (zPre D G sz ws)) (Qc sz) 0 0 (va_A ws sz) := by
  intro sz
  refine z_ofWF (cc := cc) (maxL := n) (ret := ret) hy rfl ?_
  intro p e s m args below meth c s₁ B hml hv
  obtain ⟨rfl, hsz, hP, hK, hD0, hF⟩ := hv
  subst hsz
  have hts := atoms_spec (ws := zW y cc n ret) B.pre
  rw [lg_entry_eq]
  exact body p e s m below meth c s.heap _ ⟨B.exec, B.bytes, hml, findClass_of_methodNamed B.named, fun w h => hts w (List.mem_cons_of_mem _ h), hK, B.notSynchronized, hF, B.returns, fun q h => Or.inr h⟩ hP hD0.self va_S.rf (lv_entry av hn)
section ZR
variable {p : Program} {l : Launch} {e : Env} {R : Room} {s : State} {m : MethodId} {args : Array Value} {below : List Frame} {meth : Method} {c : Code} {H : Heap} {locs : List Loc} {Q : State → Prop} {cc : ByteArray} {nL : Nat} {ret : Option FieldType} {own : String} {D : va_G} {G : zG} {A : Nat → Prop} {pc : Nat} {ls : Array Slot} {ws wc wc' wr ws' : va_W}
theorem z_iret {v r : Int32} (C0 : zCx p s m args meth c cc nL (some .int) own D G (va_A ws s.heap.size)) (hP : va_P D vwCl ws' H) (hD : va_D (va_A ws s.heap.size) ws') (hS : va_S (va_A ws s.heap.size) s.heap H locs) (hv : v = r) (hdg : decode cc pc = .ok (.ireturn, 1)) :
    W p l e R s m args below meth c H locs 0 0 (MQ below (zQi D G ws ws' r s.heap.size) args s 0 0 (va_A ws s.heap.size)) (F0 m pc ls [.int v]) := by
  obtain ⟨hx, hb, hml, hown, hW, hK, hlocks, hF, hr, hA⟩ := C0
  exact W.iret (v := v) hx hb hr (fun t ht hW => ⟨⟨v, (), rfl, hv, by rw [ht]; exact hP, va_K.moved hW.alike hK, hD⟩, hS.F ht⟩) hS.2.2 hdg hlocks
theorem z_zret {v r : Int32} {ty : FieldType} (C0 : zCx p s m args meth c cc nL (some ty) own D G (va_A ws s.heap.size)) (hn : narrow ty (.int v) = .int v) (hP : va_P D vwCl ws' H) (hD : va_D (va_A ws s.heap.size) ws') (hS : va_S (va_A ws s.heap.size) s.heap H locs) (hv : v = r) (hdg : decode cc pc = .ok (.ireturn, 1)) :
    W p l e R s m args below meth c H locs 0 0 (MQ below (zQi D G ws ws' r s.heap.size) args s 0 0 (va_A ws s.heap.size)) (F0 m pc ls [.int v]) := by
  obtain ⟨hx, hb, hml, hown, hW, hK, hlocks, hF, hr, hA⟩ := C0
  exact W.zret (v := v) hx hb hr hn (fun t ht hW => ⟨⟨v, (), rfl, hv, by rw [ht]; exact hP, va_K.moved hW.alike hK, hD⟩, hS.F ht⟩) hS.2.2 hdg hlocks
theorem z_lret {v r : Int64} (C0 : zCx p s m args meth c cc nL (some .long) own D G (va_A ws s.heap.size)) (hP : va_P D vwCl ws' H) (hD : va_D (va_A ws s.heap.size) ws') (hS : va_S (va_A ws s.heap.size) s.heap H locs) (hv : v = r) (hdg : decode cc pc = .ok (.lreturn, 1)) :
    W p l e R s m args below meth c H locs 0 0 (MQ below (zQl D G ws ws' r s.heap.size) args s 0 0 (va_A ws s.heap.size)) (F0 m pc ls [.long v]) := by
  obtain ⟨hx, hb, hml, hown, hW, hK, hlocks, hF, hr, hA⟩ := C0
  exact W.lret (v := v) hx hb hr (fun t ht hW => ⟨⟨v, (), rfl, hv, by rw [ht]; exact hP, va_K.moved hW.alike hK, hD⟩, hS.F ht⟩) hS.2.2 hdg hlocks
theorem z_vret (C0 : zCx p s m args meth c cc nL none own D G (va_A ws s.heap.size)) (hP : va_P D vwCl ws' H) (hD : va_D (va_A ws s.heap.size) ws') (hS : va_S (va_A ws s.heap.size) s.heap H locs) (hdg : decode cc pc = .ok (.return_, 1)) :
    W p l e R s m args below meth c H locs 0 0 (MQ below (zQv D G ws ws' s.heap.size) args s 0 0 (va_A ws s.heap.size)) (F0 m pc ls []) := by
  obtain ⟨hx, hb, hml, hown, hW, hK, hlocks, hF, hr, hA⟩ := C0
  exact W.vret hx hb hr (fun t ht hW => ⟨⟨(), rfl, trivial, by rw [ht]; exact hP, va_K.moved hW.alike hK, hD⟩, hS.F ht⟩) hS.2.2 hdg hlocks
/-- what a call site links -/
def zLkV (own : String) (idx : Nat) (y : MethodName) (cy : ByteArray) (ny : Nat) (rety : Option FieldType) (n : Nat) : Prop :=
  (Cond.methodLink own idx y ∈ wsL_law ∧ Cond.instanceMethod y ∈ wsL_law ∧ Cond.selects y.cls y y ∈ wsL_law ∧ Cond.initialized y.cls ∈ wsL_law ∧ Cond.code y cy ny rety ∈ wsL_law) ∧ y.cls ≠ "java/lang/invoke/MethodHandle" ∧ y.cls ≠ "java/lang/invoke/VarHandle" ∧ (parseMethodDescriptor y.desc).map (fun d => d.parameters.length) = some n
def zLkS (own : String) (idx : Nat) (y : MethodName) (cy : ByteArray) (ny : Nat) (rety : Option FieldType) (n : Nat) : Prop :=
  (Cond.methodLink own idx y ∈ wsL_law ∧ Cond.static y ∈ wsL_law ∧ Cond.initialized y.cls ∈ wsL_law ∧ Cond.code y cy ny rety ∈ wsL_law) ∧ y.cls ≠ "java/lang/invoke/MethodHandle" ∧ y.cls ≠ "java/lang/invoke/VarHandle" ∧ (parseMethodDescriptor y.desc).map (fun d => d.parameters.length) = some n
def zLkN (own : String) (idx : Nat) (y : MethodName) (cy : ByteArray) (ny : Nat) (rety : Option FieldType) (n : Nat) : Prop :=
  (Cond.methodLinkNest own idx y "QuietChecks" ∈ zNest ∧ Cond.static y ∈ wsL_law ∧ Cond.initialized y.cls ∈ wsL_law ∧ Cond.code y cy ny rety ∈ wsL_law) ∧ y.cls ≠ "java/lang/invoke/MethodHandle" ∧ y.cls ≠ "java/lang/invoke/VarHandle" ∧ (parseMethodDescriptor y.desc).map (fun d => d.parameters.length) = some n
theorem zW_sub {y : MethodName} {cy : ByteArray} {ny : Nat} {rety : Option FieldType} (h : Cond.code y cy ny rety ∈ wsL_law) : GoodIn wsL_law (zW y cy ny rety) := fun w hw => by
  have hm : w ∈ wsL_law := by
    rcases List.mem_cons.mp hw with rfl | hw
    · exact h
    · exact hw
  exact ⟨hm, zW_good w hm⟩
theorem z_goodV {own : String} {idx : Nat} {y : MethodName} {cy : ByteArray} {ny : Nat} {rety : Option FieldType} {n : Nat} (k : zLkV own idx y cy ny rety n) : GoodIn wsL_law (wsV own idx y.cls y (zW y cy ny rety)) := fun w hw => by
  obtain ⟨⟨h1, h2, h3, h4, h5⟩, -⟩ := k
  have hm : w ∈ wsL_law := by
    unfold wsV at hw
    rcases List.mem_append.mp hw with hw | hw
    · simp only [List.mem_cons, List.not_mem_nil, or_false] at hw
      rcases hw with rfl | rfl | rfl | rfl
      · exact h1
      · exact h2
      · exact h3
      · exact h4
    · exact (zW_sub h5 w hw).1
  exact ⟨hm, zW_good w hm⟩
theorem z_goodS {own : String} {idx : Nat} {y : MethodName} {cy : ByteArray} {ny : Nat} {rety : Option FieldType} {n : Nat} (k : zLkS own idx y cy ny rety n) : GoodIn wsL_law (va_wsS own idx y (zW y cy ny rety)) := fun w hw => by
  obtain ⟨⟨h1, h2, h3, h4⟩, -⟩ := k
  have hm : w ∈ wsL_law := by
    unfold va_wsS at hw
    rcases List.mem_append.mp hw with hw | hw
    · simp only [List.mem_cons, List.not_mem_nil, or_false] at hw
      rcases hw with rfl | rfl | rfl
      · exact h1
      · exact h2
      · exact h3
    · exact (zW_sub h4 w hw).1
  exact ⟨hm, zW_good w hm⟩
/-- the callee's start holds at the call -/
theorem z_pre {av : List Value} (hF : zF G A s s.heap) (hK : va_K D vwCl (zTY G) s) (hPc : va_P D vwCl (wc ++ wr) H) (hDc : va_D A (wc ++ wr)) (hS : va_S A s.heap H locs) (hFc : ∀ q, va_A wc H.size q → A q) : ∀ U : State, U.heap = H → s.WarmedH U.vm → va_Pc av (zPre D G H.size wc) av.toArray U := fun U hU hW => by
  refine ⟨rfl, by rw [hU], by rw [hU]; exact zP_left hPc, va_K.moved hW.alike hK, (zD_left hDc).weaken (fun _ _ _ _ => trivial), ?_⟩
  rw [hU]
  exact zF_warm hW (zF_narrow (zF_kept hF (fun a h1 h2 => hS.2.1 a h1 h2)) hFc)
theorem z_backW {t : State} {H1 : Heap} (hPc : va_P D vwCl (wc ++ wr) H) (hDc : va_D A (wc ++ wr)) (hFc : ∀ q, va_A wc H.size q → A q) (ht : t.heap = H1) (hB : zPost D G H.size wc wc' t) (hk : ∀ q : Nat, q < H.size → ¬ va_A wc H.size q → H1[q]? = H[q]?) (hp2 : (wc' ++ wr).Perm ws') : va_P D vwCl ws' H1 ∧ va_D A ws' := by
  obtain ⟨hP1, hK1, hD1⟩ := hB
  rw [ht] at hP1
  obtain ⟨h1, h2⟩ := z_join hPc hDc hk hFc hP1 hD1
  exact ⟨zP_perm hp2 h1, zD_perm hp2 h2⟩
theorem z_Vi {y : MethodName} {cy : ByteArray} {ny fy Ly idx ci n bq N : Nat} {rety : Option FieldType} {As rest st0 fs : List Value} {T : u_T} {r : Int32} (C0 : zCx p s m args meth c cc nL ret own D G A) (k : zLkV own idx y cy ny rety n) (hM : zMi l y cy ny rety fy Ly D G wc wc' (.ref bq :: As) r)
    (hp1 : ws.Perm (wc ++ wr)) (hp2 : (wc' ++ wr).Perm ws') (hq0 : wc[0]? = some (bq, .inr (ci, fs))) (hci : vwCl[ci]? = some (y.cls, T, N)) (hn : As.length = n) (hR : fy + 1 ≤ R.frames ∧ 8 + (ny + 11) + Ly ≤ R.locals) (hrm : (rest.map fun v => v.category).sum ≤ 8) (hst : st0 = As.reverse ++ .ref bq :: rest) (hls : ls.size = nL)
    (hP : va_P D vwCl ws H) (hD : va_D A ws) (hS : va_S A s.heap H locs) (hdg : decode cc pc = .ok (.invokevirtual idx, 3))
    (kk : ∀ (H1 : Heap) (locs1 : List Loc), va_P D vwCl ws' H1 → va_D A ws' → va_S A s.heap H1 locs1 → W p l e R s m args below meth c H1 locs1 0 0 Q (F0 m (pc + 3) ls (.int r :: rest))) : W p l e R s m args below meth c H locs 0 0 Q (F0 m pc ls st0) := by
  obtain ⟨hx, hb, hml, hown, hW, hK, hlocks, hF, hr, hA⟩ := C0
  subst hst
  have hPc := zP_perm hp1 hP
  have hDc := zD_perm hp1 hD
  have hFc := z_free hDc hS hA
  refine va_calli (va_runV (As := As) (rest := rest) ⟨hx, hb, hml, hown, hW⟩ (hM H.size) (cwV n hW (z_goodV k) rfl rfl rfl ⟨rfl, k.2⟩ hR) ⟨zPre_blind, va_recv hK (zP_left hPc) hci hq0, z_pre hF hK hPc hDc hS hFc⟩ rfl hn hls rfl (lv_room hrm) hdg ⟨Nat.zero_le _, Nat.zero_le _⟩) hS (fun q _ h => hFc q h) hFc (fun x u t H1 locs1 ht hvm hw hB hz1 hk1 hS1 => ?_)
  obtain ⟨h1, h2⟩ := z_backW hPc hDc hFc ht hB hk1 hp2
  subst hw
  exact kk H1 locs1 h1 h2 hS1
theorem z_Vl {y : MethodName} {cy : ByteArray} {ny fy Ly idx ci n bq N : Nat} {rety : Option FieldType} {As rest st0 fs : List Value} {T : u_T} {r : Int64} (C0 : zCx p s m args meth c cc nL ret own D G A) (k : zLkV own idx y cy ny rety n) (hM : zMl l y cy ny rety fy Ly D G wc wc' (.ref bq :: As) r)
    (hp1 : ws.Perm (wc ++ wr)) (hp2 : (wc' ++ wr).Perm ws') (hq0 : wc[0]? = some (bq, .inr (ci, fs))) (hci : vwCl[ci]? = some (y.cls, T, N)) (hn : As.length = n) (hR : fy + 1 ≤ R.frames ∧ 8 + (ny + 11) + Ly ≤ R.locals) (hrm : (rest.map fun v => v.category).sum ≤ 8) (hst : st0 = As.reverse ++ .ref bq :: rest) (hls : ls.size = nL)
    (hP : va_P D vwCl ws H) (hD : va_D A ws) (hS : va_S A s.heap H locs) (hdg : decode cc pc = .ok (.invokevirtual idx, 3))
    (kk : ∀ (H1 : Heap) (locs1 : List Loc), va_P D vwCl ws' H1 → va_D A ws' → va_S A s.heap H1 locs1 → W p l e R s m args below meth c H1 locs1 0 0 Q (F0 m (pc + 3) ls (.long r :: rest))) : W p l e R s m args below meth c H locs 0 0 Q (F0 m pc ls st0) := by
  obtain ⟨hx, hb, hml, hown, hW, hK, hlocks, hF, hr, hA⟩ := C0
  subst hst
  have hPc := zP_perm hp1 hP
  have hDc := zD_perm hp1 hD
  have hFc := z_free hDc hS hA
  refine va_calll (va_runV (As := As) (rest := rest) ⟨hx, hb, hml, hown, hW⟩ (hM H.size) (cwV n hW (z_goodV k) rfl rfl rfl ⟨rfl, k.2⟩ hR) ⟨zPre_blind, va_recv hK (zP_left hPc) hci hq0, z_pre hF hK hPc hDc hS hFc⟩ rfl hn hls rfl (lv_room hrm) hdg ⟨Nat.zero_le _, Nat.zero_le _⟩) hS (fun q _ h => hFc q h) hFc (fun x u t H1 locs1 ht hvm hw hB hz1 hk1 hS1 => ?_)
  obtain ⟨h1, h2⟩ := z_backW hPc hDc hFc ht hB hk1 hp2
  subst hw
  exact kk H1 locs1 h1 h2 hS1
theorem z_Vv {y : MethodName} {cy : ByteArray} {ny fy Ly idx ci n bq N : Nat} {rety : Option FieldType} {As rest st0 fs : List Value} {T : u_T} (C0 : zCx p s m args meth c cc nL ret own D G A) (k : zLkV own idx y cy ny rety n) (hM : zMv l y cy ny rety fy Ly D G wc wc' (.ref bq :: As))
    (hp1 : ws.Perm (wc ++ wr)) (hp2 : (wc' ++ wr).Perm ws') (hq0 : wc[0]? = some (bq, .inr (ci, fs))) (hci : vwCl[ci]? = some (y.cls, T, N)) (hn : As.length = n) (hR : fy + 1 ≤ R.frames ∧ 8 + (ny + 11) + Ly ≤ R.locals) (hrm : (rest.map fun v => v.category).sum ≤ 8) (hst : st0 = As.reverse ++ .ref bq :: rest) (hls : ls.size = nL)
    (hP : va_P D vwCl ws H) (hD : va_D A ws) (hS : va_S A s.heap H locs) (hdg : decode cc pc = .ok (.invokevirtual idx, 3))
    (kk : ∀ (H1 : Heap) (locs1 : List Loc), va_P D vwCl ws' H1 → va_D A ws' → va_S A s.heap H1 locs1 → W p l e R s m args below meth c H1 locs1 0 0 Q (F0 m (pc + 3) ls rest)) : W p l e R s m args below meth c H locs 0 0 Q (F0 m pc ls st0) := by
  obtain ⟨hx, hb, hml, hown, hW, hK, hlocks, hF, hr, hA⟩ := C0
  subst hst
  have hPc := zP_perm hp1 hP
  have hDc := zD_perm hp1 hD
  have hFc := z_free hDc hS hA
  refine va_callv (va_runV (As := As) (rest := rest) ⟨hx, hb, hml, hown, hW⟩ (hM H.size) (cwV n hW (z_goodV k) rfl rfl rfl ⟨rfl, k.2⟩ hR) ⟨zPre_blind, va_recv hK (zP_left hPc) hci hq0, z_pre hF hK hPc hDc hS hFc⟩ rfl hn hls rfl (lv_room hrm) hdg ⟨Nat.zero_le _, Nat.zero_le _⟩) hS (fun q _ h => hFc q h) hFc (fun u t H1 locs1 ht hvm hw hB hz1 hk1 hS1 => ?_)
  obtain ⟨h1, h2⟩ := z_backW hPc hDc hFc ht hB hk1 hp2
  exact kk H1 locs1 h1 h2 hS1
/-- static methods -/
theorem z_Si {y : MethodName} {cy : ByteArray} {ny fy Ly idx n : Nat} {rety : Option FieldType} {As rest st0 : List Value} {r : Int32} (C0 : zCx p s m args meth c cc nL ret own D G A) (k : zLkS own idx y cy ny rety n) (hM : zMi l y cy ny rety fy Ly D G wc wc' As r)
    (hp1 : ws.Perm (wc ++ wr)) (hp2 : (wc' ++ wr).Perm ws') (hn : As.length = n) (hR : fy + 1 ≤ R.frames ∧ 8 + (ny + 11) + Ly ≤ R.locals) (hrm : (rest.map fun v => v.category).sum ≤ 8) (hst : st0 = As.reverse ++ rest) (hls : ls.size = nL)
    (hP : va_P D vwCl ws H) (hD : va_D A ws) (hS : va_S A s.heap H locs) (hdg : decode cc pc = .ok (.invokestatic idx, 3))
    (kk : ∀ (H1 : Heap) (locs1 : List Loc), va_P D vwCl ws' H1 → va_D A ws' → va_S A s.heap H1 locs1 → W p l e R s m args below meth c H1 locs1 0 0 Q (F0 m (pc + 3) ls (.int r :: rest))) : W p l e R s m args below meth c H locs 0 0 Q (F0 m pc ls st0) := by
  obtain ⟨hx, hb, hml, hown, hW, hK, hlocks, hF, hr, hA⟩ := C0
  subst hst
  have hPc := zP_perm hp1 hP
  have hDc := zD_perm hp1 hD
  have hFc := z_free hDc hS hA
  refine va_calli (va_runS (As := As) (rest := rest) ⟨hx, hb, hml, hown, hW⟩ (hM H.size) (va_cwS n hW (z_goodS k) rfl rfl rfl k.2 hR) ⟨zPre_blind, z_pre hF hK hPc hDc hS hFc⟩ rfl hn hls rfl (lv_room hrm) hdg ⟨Nat.zero_le _, Nat.zero_le _⟩) hS (fun q _ h => hFc q h) hFc (fun x u t H1 locs1 ht hvm hw hB hz1 hk1 hS1 => ?_)
  obtain ⟨h1, h2⟩ := z_backW hPc hDc hFc ht hB hk1 hp2
  subst hw
  exact kk H1 locs1 h1 h2 hS1
theorem z_Sl {y : MethodName} {cy : ByteArray} {ny fy Ly idx n : Nat} {rety : Option FieldType} {As rest st0 : List Value} {r : Int64} (C0 : zCx p s m args meth c cc nL ret own D G A) (k : zLkS own idx y cy ny rety n) (hM : zMl l y cy ny rety fy Ly D G wc wc' As r)
    (hp1 : ws.Perm (wc ++ wr)) (hp2 : (wc' ++ wr).Perm ws') (hn : As.length = n) (hR : fy + 1 ≤ R.frames ∧ 8 + (ny + 11) + Ly ≤ R.locals) (hrm : (rest.map fun v => v.category).sum ≤ 8) (hst : st0 = As.reverse ++ rest) (hls : ls.size = nL)
    (hP : va_P D vwCl ws H) (hD : va_D A ws) (hS : va_S A s.heap H locs) (hdg : decode cc pc = .ok (.invokestatic idx, 3))
    (kk : ∀ (H1 : Heap) (locs1 : List Loc), va_P D vwCl ws' H1 → va_D A ws' → va_S A s.heap H1 locs1 → W p l e R s m args below meth c H1 locs1 0 0 Q (F0 m (pc + 3) ls (.long r :: rest))) : W p l e R s m args below meth c H locs 0 0 Q (F0 m pc ls st0) := by
  obtain ⟨hx, hb, hml, hown, hW, hK, hlocks, hF, hr, hA⟩ := C0
  subst hst
  have hPc := zP_perm hp1 hP
  have hDc := zD_perm hp1 hD
  have hFc := z_free hDc hS hA
  refine va_calll (va_runS (As := As) (rest := rest) ⟨hx, hb, hml, hown, hW⟩ (hM H.size) (va_cwS n hW (z_goodS k) rfl rfl rfl k.2 hR) ⟨zPre_blind, z_pre hF hK hPc hDc hS hFc⟩ rfl hn hls rfl (lv_room hrm) hdg ⟨Nat.zero_le _, Nat.zero_le _⟩) hS (fun q _ h => hFc q h) hFc (fun x u t H1 locs1 ht hvm hw hB hz1 hk1 hS1 => ?_)
  obtain ⟨h1, h2⟩ := z_backW hPc hDc hFc ht hB hk1 hp2
  subst hw
  exact kk H1 locs1 h1 h2 hS1
theorem z_Sv {y : MethodName} {cy : ByteArray} {ny fy Ly idx n : Nat} {rety : Option FieldType} {As rest st0 : List Value} (C0 : zCx p s m args meth c cc nL ret own D G A) (k : zLkS own idx y cy ny rety n) (hM : zMv l y cy ny rety fy Ly D G wc wc' As)
    (hp1 : ws.Perm (wc ++ wr)) (hp2 : (wc' ++ wr).Perm ws') (hn : As.length = n) (hR : fy + 1 ≤ R.frames ∧ 8 + (ny + 11) + Ly ≤ R.locals) (hrm : (rest.map fun v => v.category).sum ≤ 8) (hst : st0 = As.reverse ++ rest) (hls : ls.size = nL)
    (hP : va_P D vwCl ws H) (hD : va_D A ws) (hS : va_S A s.heap H locs) (hdg : decode cc pc = .ok (.invokestatic idx, 3))
    (kk : ∀ (H1 : Heap) (locs1 : List Loc), va_P D vwCl ws' H1 → va_D A ws' → va_S A s.heap H1 locs1 → W p l e R s m args below meth c H1 locs1 0 0 Q (F0 m (pc + 3) ls rest)) : W p l e R s m args below meth c H locs 0 0 Q (F0 m pc ls st0) := by
  obtain ⟨hx, hb, hml, hown, hW, hK, hlocks, hF, hr, hA⟩ := C0
  subst hst
  have hPc := zP_perm hp1 hP
  have hDc := zD_perm hp1 hD
  have hFc := z_free hDc hS hA
  refine va_callv (va_runS (As := As) (rest := rest) ⟨hx, hb, hml, hown, hW⟩ (hM H.size) (va_cwS n hW (z_goodS k) rfl rfl rfl k.2 hR) ⟨zPre_blind, z_pre hF hK hPc hDc hS hFc⟩ rfl hn hls rfl (lv_room hrm) hdg ⟨Nat.zero_le _, Nat.zero_le _⟩) hS (fun q _ h => hFc q h) hFc (fun u t H1 locs1 ht hvm hw hB hz1 hk1 hS1 => ?_)
  obtain ⟨h1, h2⟩ := z_backW hPc hDc hFc ht hB hk1 hp2
  exact kk H1 locs1 h1 h2 hS1
/-- a nest mate's private static method -/
theorem z_Ni {y : MethodName} {cy : ByteArray} {ny fy Ly idx n : Nat} {rety : Option FieldType} {As rest st0 : List Value} {r : Int32} (C0 : zCx p s m args meth c cc nL ret own D G A) (k : zLkN own idx y cy ny rety n) (hM : zMi l y cy ny rety fy Ly D G wc wc' As r)
    (hp1 : ws.Perm (wc ++ wr)) (hp2 : (wc' ++ wr).Perm ws') (hn : As.length = n) (hR : fy + 1 ≤ R.frames ∧ 8 + (ny + 11) + Ly ≤ R.locals) (hrm : (rest.map fun v => v.category).sum ≤ 8) (hst : st0 = As.reverse ++ rest) (hls : ls.size = nL)
    (hP : va_P D vwCl ws H) (hD : va_D A ws) (hS : va_S A s.heap H locs) (hdg : decode cc pc = .ok (.invokestatic idx, 3))
    (kk : ∀ (H1 : Heap) (locs1 : List Loc), va_P D vwCl ws' H1 → va_D A ws' → va_S A s.heap H1 locs1 → W p l e R s m args below meth c H1 locs1 0 0 Q (F0 m (pc + 3) ls (.int r :: rest))) : W p l e R s m args below meth c H locs 0 0 Q (F0 m pc ls st0) := by
  obtain ⟨hx, hb, hml, hown, hW, hK, hlocks, hF, hr, hA⟩ := C0
  subst hst
  have hPc := zP_perm hp1 hP
  have hDc := zD_perm hp1 hD
  have hFc := z_free hDc hS hA
  refine va_calli (va_runSN (As := As) (rest := rest) ⟨hx, hb, hml, hown, hW⟩ (hM H.size) ⟨va_cnB n hW (zW_sub k.1.2.2.2) rfl rfl rfl (hF.1 _ k.1.1) (hW _ k.1.2.2.1) k.2 hR, hW _ k.1.2.1, trivial⟩ ⟨zPre_blind, z_pre hF hK hPc hDc hS hFc⟩ rfl hn hls rfl (lv_room hrm) hdg ⟨Nat.zero_le _, Nat.zero_le _⟩) hS (fun q _ h => hFc q h) hFc (fun x u t H1 locs1 ht hvm hw hB hz1 hk1 hS1 => ?_)
  obtain ⟨h1, h2⟩ := z_backW hPc hDc hFc ht hB hk1 hp2
  subst hw
  exact kk H1 locs1 h1 h2 hS1
end ZR
theorem z_pmid {X wc Y : va_W} : (X ++ (wc ++ Y)).Perm (wc ++ (X ++ Y)) := by
  rw [← List.append_assoc, ← List.append_assoc]
  exact List.Perm.append_right Y List.perm_append_comm
end
section
/-! rows with their new worlds named; starts with the return as a hypothesis -/
theorem z_pall {ws : va_W} : ws.Perm (ws ++ []) := by rw [List.append_nil]
theorem z_pcomp {ws w1 r w2 r1 : va_W} (h : ws.Perm (w1 ++ r)) (k : w1.Perm (w2 ++ r1)) : ws.Perm (w2 ++ (r1 ++ r)) := by
  rw [← List.append_assoc]
  exact h.trans (List.Perm.append_right r k)
theorem z_pcompb {ws w1 r w2 r1 : va_W} (h : (w1 ++ r).Perm ws) (k : (w2 ++ r1).Perm w1) : (w2 ++ (r1 ++ r)).Perm ws := by
  rw [← List.append_assoc]
  exact (List.Perm.append_right r k).trans h
theorem z_by {c : Prop} [Decidable c] {X : Prop} (h1 : c → X) (h2 : ¬ c → X) : X := if h : c then h1 h else h2 h
theorem z_nb {v : Int32} (h : v = 0 ∨ v = 1) : narrow .boolean (.int v) = .int v := by rcases h with rfl | rfl <;> rfl
theorem z_nc {v : Int32} (h : 0 ≤ v ∧ v < 65536) : narrow .char (.int v) = .int v := by
  obtain ⟨j, hj, rfl⟩ := nI_of (x := v) (Int32.not_lt.mpr h.1)
  have h2 : j < 65536 := (nI_ltI hj (by decide)).mp (show nI j < nI 65536 from h.2)
  exact (pk_charN h2).1
def zm {α β γ : Type} (f : α → Option γ) (g : β → Option γ) (o : α ⊕ β) : Option γ := match o with
  | .inl a => f a
  | .inr b => g b
theorem zm_l {α β γ : Type} {f : α → Option γ} {g : β → Option γ} {a : α} {r : γ} (h : zm f g (.inl a) = some r) : f a = some r := h
theorem zm_r {α β γ : Type} {f : α → Option γ} {g : β → Option γ} {b : β} {r : γ} (h : zm f g (.inr b) = some r) : g b = some r := h
section ZR2
variable {p : Program} {l : Launch} {e : Env} {R : Room} {s : State} {m : MethodId} {args : Array Value} {below : List Frame} {meth : Method} {c : Code} {H : Heap} {locs : List Loc} {cells slots : Nat} {Q : State → Prop} {cc : ByteArray} {D : va_G} {A : Nat → Prop} {pc a : Nat} {ls : Array Slot} {rest : List Value} {ws ws' : va_W} {tys : List (ClassId × FieldType)} {H0 : Heap} {cl : List vw_C}
theorem z_top {x v : Int32} (ev : v = x) (kk : W p l e R s m args below meth c H locs cells slots Q (F0 m pc ls (.int v :: rest))) : W p l e R s m args below meth c H locs cells slots Q (F0 m pc ls (.int x :: rest)) := by
  subst ev
  exact kk
theorem z_iald (hexec : p.tables.exec = Jvm.exec) (hb : c.code = cc) (hK : va_K D cl tys s) (hP : va_P D cl ws H) (q0 t0 : Nat) {cA : ClassId} {n : Nat} {f : Nat → Int32} (ha : ws[q0]? = some (a, .inl (cA, n, .inl f))) (ht : tys[t0]? = some (cA, .int)) {i v : Int32} (hin : vp_in i n) (ev : v = f i.toNatClampNeg) (hdg : decode cc pc = .ok (.iaload, 1))
    (kk : W p l e R s m args below meth c H locs cells slots Q (F0 m (pc + 1) ls (.int v :: rest))) : W p l e R s m args below meth c H locs cells slots Q (F0 m pc ls (.int i :: .ref a :: rest)) := by
  subst ev
  exact va_iald hexec hb hK hP q0 t0 ha ht hin hdg kk
theorem z_cald (hexec : p.tables.exec = Jvm.exec) (hb : c.code = cc) (hK : va_K D cl tys s) (hP : va_P D cl ws H) (q0 t0 : Nat) {cA : ClassId} {n : Nat} {f : Nat → Int32} (ha : ws[q0]? = some (a, .inl (cA, n, .inl f))) (ht : tys[t0]? = some (cA, .char)) {i v : Int32} (hin : vp_in i n) (ev : v = f i.toNatClampNeg) (hdg : decode cc pc = .ok (.caload, 1))
    (kk : W p l e R s m args below meth c H locs cells slots Q (F0 m (pc + 1) ls (.int v :: rest))) : W p l e R s m args below meth c H locs cells slots Q (F0 m pc ls (.int i :: .ref a :: rest)) := by
  subst ev
  exact va_cald hexec hb hK hP q0 t0 ha ht hin hdg kk
theorem z_bald (hexec : p.tables.exec = Jvm.exec) (hb : c.code = cc) (hK : va_K D cl tys s) (hP : va_P D cl ws H) (q0 t0 : Nat) {cA : ClassId} {n : Nat} {f : Nat → Int32} (ha : ws[q0]? = some (a, .inl (cA, n, .inl f))) (ht : tys[t0]? = some (cA, .byte)) {i v : Int32} (hin : vp_in i n) (ev : v = f i.toNatClampNeg) (hdg : decode cc pc = .ok (.baload, 1))
    (kk : W p l e R s m args below meth c H locs cells slots Q (F0 m (pc + 1) ls (.int v :: rest))) : W p l e R s m args below meth c H locs cells slots Q (F0 m pc ls (.int i :: .ref a :: rest)) := by
  subst ev
  exact va_bald hexec hb hK hP q0 t0 ha ht hin hdg kk
theorem z_iast (hexec : p.tables.exec = Jvm.exec) (hb : c.code = cc) (hK : va_K D cl tys s) (hP : va_P D cl ws H) (hD : va_D A ws) (hS : va_S A H0 H locs) (q0 t0 : Nat) {cA : ClassId} {n : Nat} {f g : Nat → Int32} (ha : ws[q0]? = some (a, .inl (cA, n, .inl f))) (ht : tys[t0]? = some (cA, .int)) {i x : Int32} (hin : vp_in i n) (ev : g = upd f i.toNatClampNeg x) (hws : ws.set q0 (a, .inl (cA, n, .inl g)) = ws') (hdg : decode cc pc = .ok (.iastore, 1))
    (kk : ∀ (H1 : Heap) (locs1 : List Loc), va_P D cl ws' H1 → va_D A ws' → va_S A H0 H1 locs1 → W p l e R s m args below meth c H1 locs1 cells slots Q (F0 m (pc + 1) ls rest)) : W p l e R s m args below meth c H locs cells slots Q (F0 m pc ls (.int x :: .int i :: .ref a :: rest)) := by
  subst hws; subst ev
  exact va_iast hexec hb hK hP hD hS q0 t0 ha ht hin hdg kk
theorem z_cast (hexec : p.tables.exec = Jvm.exec) (hb : c.code = cc) (hK : va_K D cl tys s) (hP : va_P D cl ws H) (hD : va_D A ws) (hS : va_S A H0 H locs) (q0 t0 : Nat) {cA : ClassId} {n : Nat} {f g : Nat → Int32} (ha : ws[q0]? = some (a, .inl (cA, n, .inl f))) (ht : tys[t0]? = some (cA, .char)) {i x : Int32} (hin : vp_in i n) (ev : g = upd f i.toNatClampNeg (vp_nar .char x)) (hws : ws.set q0 (a, .inl (cA, n, .inl g)) = ws') (hdg : decode cc pc = .ok (.castore, 1))
    (kk : ∀ (H1 : Heap) (locs1 : List Loc), va_P D cl ws' H1 → va_D A ws' → va_S A H0 H1 locs1 → W p l e R s m args below meth c H1 locs1 cells slots Q (F0 m (pc + 1) ls rest)) : W p l e R s m args below meth c H locs cells slots Q (F0 m pc ls (.int x :: .int i :: .ref a :: rest)) := by
  subst hws; subst ev
  exact va_cast hexec hb hK hP hD hS q0 t0 ha ht hin hdg kk
theorem z_parseI : parseFieldDescriptor "I" = some .int := by decide +kernel
theorem z_put (hexec : p.tables.exec = Jvm.exec) (hb : c.code = cc) {own C : String} {T : u_T} {N ci index : Nat} {Ts : List Cond} (hts : ∀ w ∈ Ts, w.before args s = true) (hin : ∀ w ∈ u_ws C T N, w ∈ Ts) (ty0 : Nat → FieldType) (hty : ∀ k, k < N → parseFieldDescriptor (T k).2.2.1 = some (ty0 k)) (hnm : ∀ a, a < N → ∀ b, b < N → a ≠ b → (T a).2.1 ≠ (T b).2.1) (hown : s.vm.findClass own = some m.cls) (hK : va_K D cl tys s) (hP : va_P D cl ws H) (hD : va_D A ws) (hS0 : va_S A H0 H locs) (q0 : Nat) {fs : List Value} (he : ws[q0]? = some (a, .inr (ci, fs))) (hc : cl[ci]? = some (C, T, N)) (k : Nat) (hk : k < N) (hlink : (Cond.fieldLink own index (T k).1 (T k).2.1 (T k).2.2.1).before args s = true) (hfin : (T k).2.2.2 = false) {v : Int32} (hd : (T k).2.2.1 = "I") (hl : k < fs.length) (hws : ws.set q0 (a, .inr (ci, fs.set k (.int v))) = ws')
    (hdg : decode cc pc = .ok (.putfield index, 3)) (kk : ∀ (H1 : Heap) (locs1 : List Loc), va_P D cl ws' H1 → va_D A ws' → va_S A H0 H1 locs1 → W p l e R s m args below meth c H1 locs1 cells slots Q (F0 m (pc + 3) ls rest)) : W p l e R s m args below meth c H locs cells slots Q (F0 m pc ls (.int v :: .ref a :: rest)) := by
  subst hws
  exact va_put (ty := .int) hexec hb hts hin ty0 hty hnm hown hK hP hD hS0 q0 he hc k hk hlink (fun _ h9 => h9) hfin (by rw [hd]; exact z_parseI) rfl rfl hl hdg kk
theorem z_putN (hexec : p.tables.exec = Jvm.exec) (hb : c.code = cc) {own C host : String} {T : u_T} {N ci index : Nat} {Ts : List Cond} (hts : ∀ w ∈ Ts, w.before args s = true) (hin : ∀ w ∈ u_ws C T N, w ∈ Ts) (ty0 : Nat → FieldType) (hty : ∀ k, k < N → parseFieldDescriptor (T k).2.2.1 = some (ty0 k)) (hnm : ∀ a, a < N → ∀ b, b < N → a ≠ b → (T a).2.1 ≠ (T b).2.1) (hown : s.vm.findClass own = some m.cls) (hK : va_K D cl tys s) (hP : va_P D cl ws H) (hD : va_D A ws) (hS0 : va_S A H0 H locs) (q0 : Nat) {fs : List Value} (he : ws[q0]? = some (a, .inr (ci, fs))) (hc : cl[ci]? = some (C, T, N)) (k : Nat) (hk : k < N) (hlink : (Cond.fieldLinkNest own index (T k).1 (T k).2.1 (T k).2.2.1 host).before args s = true) (hfin : (T k).2.2.2 = false) {v : Int32} (hd : (T k).2.2.1 = "I") (hl : k < fs.length) (hws : ws.set q0 (a, .inr (ci, fs.set k (.int v))) = ws')
    (hdg : decode cc pc = .ok (.putfield index, 3)) (kk : ∀ (H1 : Heap) (locs1 : List Loc), va_P D cl ws' H1 → va_D A ws' → va_S A H0 H1 locs1 → W p l e R s m args below meth c H1 locs1 cells slots Q (F0 m (pc + 3) ls rest)) : W p l e R s m args below meth c H locs cells slots Q (F0 m pc ls (.int v :: .ref a :: rest)) := by
  subst hws
  exact va_putN (ty := .int) hexec hb hts hin ty0 hty hnm hown hK hP hD hS0 q0 he hc k hk hlink (fun _ h9 => h9) hfin (by rw [hd]; exact z_parseI) rfl rfl hl hdg kk
end ZR2
theorem zs_i {l : Launch} {y : MethodName} {cc : ByteArray} {n f L : Nat} {D : va_G} {G : zG} {ws ws' : va_W} {av : List Value} {r : Int32} (hy : plainFor y = true) (hn : (lg_sl av).length ≤ n)
    (body : ∀ (p : Program) (e : Env) (s : State) (m : MethodId) (args : Array Value) (below : List Frame) (meth : Method) (c : Code) (A : Nat → Prop) (Q : State → Prop) (H : Heap) (ls : Array Slot), zCx p s m args meth c cc n (some .int) y.cls D G A →
      (∀ (H : Heap) (locs : List Loc) (pc : Nat) (ls : Array Slot) (v : Int32), va_P D vwCl ws' H → va_D A ws' → va_S A s.heap H locs → v = r → decode cc pc = .ok (.ireturn, 1) → W p l e (zRm f L) s m args below meth c H locs 0 0 Q (F0 m pc ls [.int v])) →
      va_P D vwCl ws H → va_D A ws → va_S A s.heap H [] → lv_has ls n (lv_args 0 av) → W p l e (zRm f L) s m args below meth c H [] 0 0 Q (F0 m 0 ls [])) : zMi l y cc n (some .int) f L D G ws ws' av r :=
  z_start hy hn (fun p e s m below meth c H ls C0 hP hD hS hl => body p e s m av.toArray below meth c _ _ H ls C0 (fun H locs pc ls v h1 h2 h3 h4 h5 => z_iret C0 h1 h2 h3 h4 h5) hP hD hS hl)
theorem zs_z {l : Launch} {y : MethodName} {cc : ByteArray} {n f L : Nat} {D : va_G} {G : zG} {ws ws' : va_W} {av : List Value} {r : Int32} {ty : FieldType} (hy : plainFor y = true) (hn : (lg_sl av).length ≤ n)
    (body : ∀ (p : Program) (e : Env) (s : State) (m : MethodId) (args : Array Value) (below : List Frame) (meth : Method) (c : Code) (A : Nat → Prop) (Q : State → Prop) (H : Heap) (ls : Array Slot), zCx p s m args meth c cc n (some ty) y.cls D G A →
      (∀ (H : Heap) (locs : List Loc) (pc : Nat) (ls : Array Slot) (v : Int32), va_P D vwCl ws' H → va_D A ws' → va_S A s.heap H locs → v = r → narrow ty (.int v) = .int v → decode cc pc = .ok (.ireturn, 1) → W p l e (zRm f L) s m args below meth c H locs 0 0 Q (F0 m pc ls [.int v])) →
      va_P D vwCl ws H → va_D A ws → va_S A s.heap H [] → lv_has ls n (lv_args 0 av) → W p l e (zRm f L) s m args below meth c H [] 0 0 Q (F0 m 0 ls [])) : zMi l y cc n (some ty) f L D G ws ws' av r :=
  z_start hy hn (fun p e s m below meth c H ls C0 hP hD hS hl => body p e s m av.toArray below meth c _ _ H ls C0 (fun H locs pc ls v h1 h2 h3 h4 h6 h5 => z_zret C0 h6 h1 h2 h3 h4 h5) hP hD hS hl)
theorem zs_l {l : Launch} {y : MethodName} {cc : ByteArray} {n f L : Nat} {D : va_G} {G : zG} {ws ws' : va_W} {av : List Value} {r : Int64} (hy : plainFor y = true) (hn : (lg_sl av).length ≤ n)
    (body : ∀ (p : Program) (e : Env) (s : State) (m : MethodId) (args : Array Value) (below : List Frame) (meth : Method) (c : Code) (A : Nat → Prop) (Q : State → Prop) (H : Heap) (ls : Array Slot), zCx p s m args meth c cc n (some .long) y.cls D G A →
      (∀ (H : Heap) (locs : List Loc) (pc : Nat) (ls : Array Slot) (v : Int64), va_P D vwCl ws' H → va_D A ws' → va_S A s.heap H locs → v = r → decode cc pc = .ok (.lreturn, 1) → W p l e (zRm f L) s m args below meth c H locs 0 0 Q (F0 m pc ls [.long v])) →
      va_P D vwCl ws H → va_D A ws → va_S A s.heap H [] → lv_has ls n (lv_args 0 av) → W p l e (zRm f L) s m args below meth c H [] 0 0 Q (F0 m 0 ls [])) : zMl l y cc n (some .long) f L D G ws ws' av r :=
  z_start hy hn (fun p e s m below meth c H ls C0 hP hD hS hl => body p e s m av.toArray below meth c _ _ H ls C0 (fun H locs pc ls v h1 h2 h3 h4 h5 => z_lret C0 h1 h2 h3 h4 h5) hP hD hS hl)
theorem zs_v {l : Launch} {y : MethodName} {cc : ByteArray} {n f L : Nat} {D : va_G} {G : zG} {ws ws' : va_W} {av : List Value} (hy : plainFor y = true) (hn : (lg_sl av).length ≤ n)
    (body : ∀ (p : Program) (e : Env) (s : State) (m : MethodId) (args : Array Value) (below : List Frame) (meth : Method) (c : Code) (A : Nat → Prop) (Q : State → Prop) (H : Heap) (ls : Array Slot), zCx p s m args meth c cc n none y.cls D G A →
      (∀ (H : Heap) (locs : List Loc) (pc : Nat) (ls : Array Slot), va_P D vwCl ws' H → va_D A ws' → va_S A s.heap H locs → decode cc pc = .ok (.return_, 1) → W p l e (zRm f L) s m args below meth c H locs 0 0 Q (F0 m pc ls [])) →
      va_P D vwCl ws H → va_D A ws → va_S A s.heap H [] → lv_has ls n (lv_args 0 av) → W p l e (zRm f L) s m args below meth c H [] 0 0 Q (F0 m 0 ls [])) : zMv l y cc n none f L D G ws ws' av :=
  z_start hy hn (fun p e s m below meth c H ls C0 hP hD hS hl => body p e s m av.toArray below meth c _ _ H ls C0 (fun H locs pc ls h1 h2 h3 h5 => z_vret C0 h1 h2 h3 h5) hP hD hS hl)
theorem z_in {i : Int32} {n : Nat} (h : (!(decide (i < 0) || decide (n ≤ i.toNatClampNeg))) = true) : vp_in i n := by
  simp only [Bool.not_eq_true', Bool.or_eq_false_iff, decide_eq_false_iff_not] at h
  exact fun q => q.elim h.1 h.2
end
section
theorem wc_1 {w : Cond} (h : w ∈ wsL_law_r1) : w ∈ wsL_law := List.mem_append_left _ (List.mem_append_left _ (List.mem_append_left _ (List.mem_append_left _ (List.mem_append_left _ (List.mem_append_left _ (List.mem_append_left _ (List.mem_append_left _ (List.mem_append_left _ (List.mem_append_left _ (List.mem_append_left _ h))))))))))
theorem wc_2 {w : Cond} (h : w ∈ wsL_law_r2) : w ∈ wsL_law := List.mem_append_left _ (List.mem_append_left _ (List.mem_append_left _ (List.mem_append_left _ (List.mem_append_left _ (List.mem_append_left _ (List.mem_append_left _ (List.mem_append_left _ (List.mem_append_left _ (List.mem_append_left _ (List.mem_append_right _ (List.mem_append_left _ h)))))))))))
theorem wc_3 {w : Cond} (h : w ∈ wsL_law_r3) : w ∈ wsL_law := List.mem_append_left _ (List.mem_append_left _ (List.mem_append_left _ (List.mem_append_left _ (List.mem_append_left _ (List.mem_append_left _ (List.mem_append_left _ (List.mem_append_left _ (List.mem_append_left _ (List.mem_append_left _ (List.mem_append_right _ (List.mem_append_right _ (List.mem_append_left _ h))))))))))))
theorem wc_4 {w : Cond} (h : w ∈ wsL_law_r4) : w ∈ wsL_law := List.mem_append_left _ (List.mem_append_left _ (List.mem_append_left _ (List.mem_append_left _ (List.mem_append_left _ (List.mem_append_left _ (List.mem_append_left _ (List.mem_append_left _ (List.mem_append_left _ (List.mem_append_left _ (List.mem_append_right _ (List.mem_append_right _ (List.mem_append_right _ (List.mem_append_left _ h)))))))))))))
theorem wc_5 {w : Cond} (h : w ∈ wsL_law_r5) : w ∈ wsL_law := List.mem_append_left _ (List.mem_append_left _ (List.mem_append_left _ (List.mem_append_left _ (List.mem_append_left _ (List.mem_append_left _ (List.mem_append_left _ (List.mem_append_left _ (List.mem_append_left _ (List.mem_append_left _ (List.mem_append_right _ (List.mem_append_right _ (List.mem_append_right _ (List.mem_append_right _ (List.mem_append_left _ h))))))))))))))
theorem wc_6 {w : Cond} (h : w ∈ wsL_law_r6) : w ∈ wsL_law := List.mem_append_left _ (List.mem_append_left _ (List.mem_append_left _ (List.mem_append_left _ (List.mem_append_left _ (List.mem_append_left _ (List.mem_append_left _ (List.mem_append_left _ (List.mem_append_left _ (List.mem_append_left _ (List.mem_append_right _ (List.mem_append_right _ (List.mem_append_right _ (List.mem_append_right _ (List.mem_append_right _ (List.mem_append_left _ h)))))))))))))))
theorem wc_7 {w : Cond} (h : w ∈ wsL_law_r7) : w ∈ wsL_law := List.mem_append_left _ (List.mem_append_left _ (List.mem_append_left _ (List.mem_append_left _ (List.mem_append_left _ (List.mem_append_left _ (List.mem_append_left _ (List.mem_append_left _ (List.mem_append_left _ (List.mem_append_left _ (List.mem_append_right _ (List.mem_append_right _ (List.mem_append_right _ (List.mem_append_right _ (List.mem_append_right _ (List.mem_append_right _ (List.mem_append_left _ h))))))))))))))))
theorem wc_8 {w : Cond} (h : w ∈ wsL_law_r8) : w ∈ wsL_law := List.mem_append_left _ (List.mem_append_left _ (List.mem_append_left _ (List.mem_append_left _ (List.mem_append_left _ (List.mem_append_left _ (List.mem_append_left _ (List.mem_append_left _ (List.mem_append_left _ (List.mem_append_left _ (List.mem_append_right _ (List.mem_append_right _ (List.mem_append_right _ (List.mem_append_right _ (List.mem_append_right _ (List.mem_append_right _ (List.mem_append_right _ (List.mem_append_left _ h)))))))))))))))))
theorem wc_9 {w : Cond} (h : w ∈ wsL_law_r9) : w ∈ wsL_law := List.mem_append_left _ (List.mem_append_left _ (List.mem_append_left _ (List.mem_append_left _ (List.mem_append_left _ (List.mem_append_left _ (List.mem_append_left _ (List.mem_append_left _ (List.mem_append_left _ (List.mem_append_left _ (List.mem_append_right _ (List.mem_append_right _ (List.mem_append_right _ (List.mem_append_right _ (List.mem_append_right _ (List.mem_append_right _ (List.mem_append_right _ (List.mem_append_right _ (List.mem_append_left _ h))))))))))))))))))
theorem wc_10 {w : Cond} (h : w ∈ wsL_law_r10) : w ∈ wsL_law := List.mem_append_left _ (List.mem_append_left _ (List.mem_append_left _ (List.mem_append_left _ (List.mem_append_left _ (List.mem_append_left _ (List.mem_append_left _ (List.mem_append_left _ (List.mem_append_left _ (List.mem_append_left _ (List.mem_append_right _ (List.mem_append_right _ (List.mem_append_right _ (List.mem_append_right _ (List.mem_append_right _ (List.mem_append_right _ (List.mem_append_right _ (List.mem_append_right _ (List.mem_append_right _ (List.mem_append_left _ h)))))))))))))))))))
theorem wc_11 {w : Cond} (h : w ∈ wsL_law_r11) : w ∈ wsL_law := List.mem_append_left _ (List.mem_append_left _ (List.mem_append_left _ (List.mem_append_left _ (List.mem_append_left _ (List.mem_append_left _ (List.mem_append_left _ (List.mem_append_left _ (List.mem_append_left _ (List.mem_append_left _ (List.mem_append_right _ (List.mem_append_right _ (List.mem_append_right _ (List.mem_append_right _ (List.mem_append_right _ (List.mem_append_right _ (List.mem_append_right _ (List.mem_append_right _ (List.mem_append_right _ (List.mem_append_right _ (List.mem_append_left _ h))))))))))))))))))))
theorem wc_12 {w : Cond} (h : w ∈ wsL_law_r12) : w ∈ wsL_law := List.mem_append_left _ (List.mem_append_left _ (List.mem_append_left _ (List.mem_append_left _ (List.mem_append_left _ (List.mem_append_left _ (List.mem_append_left _ (List.mem_append_left _ (List.mem_append_left _ (List.mem_append_left _ (List.mem_append_right _ (List.mem_append_right _ (List.mem_append_right _ (List.mem_append_right _ (List.mem_append_right _ (List.mem_append_right _ (List.mem_append_right _ (List.mem_append_right _ (List.mem_append_right _ (List.mem_append_right _ (List.mem_append_right _ (List.mem_append_left _ h)))))))))))))))))))))
theorem wc_13 {w : Cond} (h : w ∈ wsL_law_r13) : w ∈ wsL_law := List.mem_append_left _ (List.mem_append_left _ (List.mem_append_left _ (List.mem_append_left _ (List.mem_append_left _ (List.mem_append_left _ (List.mem_append_left _ (List.mem_append_left _ (List.mem_append_left _ (List.mem_append_left _ (List.mem_append_right _ (List.mem_append_right _ (List.mem_append_right _ (List.mem_append_right _ (List.mem_append_right _ (List.mem_append_right _ (List.mem_append_right _ (List.mem_append_right _ (List.mem_append_right _ (List.mem_append_right _ (List.mem_append_right _ (List.mem_append_right _ (List.mem_append_left _ h))))))))))))))))))))))
theorem wc_14 {w : Cond} (h : w ∈ wsL_law_r14) : w ∈ wsL_law := List.mem_append_left _ (List.mem_append_left _ (List.mem_append_left _ (List.mem_append_left _ (List.mem_append_left _ (List.mem_append_left _ (List.mem_append_left _ (List.mem_append_left _ (List.mem_append_left _ (List.mem_append_left _ (List.mem_append_right _ (List.mem_append_right _ (List.mem_append_right _ (List.mem_append_right _ (List.mem_append_right _ (List.mem_append_right _ (List.mem_append_right _ (List.mem_append_right _ (List.mem_append_right _ (List.mem_append_right _ (List.mem_append_right _ (List.mem_append_right _ (List.mem_append_right _ (List.mem_append_left _ h)))))))))))))))))))))))
theorem wc_15 {w : Cond} (h : w ∈ wsL_law_r15) : w ∈ wsL_law := List.mem_append_left _ (List.mem_append_left _ (List.mem_append_left _ (List.mem_append_left _ (List.mem_append_left _ (List.mem_append_left _ (List.mem_append_left _ (List.mem_append_left _ (List.mem_append_left _ (List.mem_append_left _ (List.mem_append_right _ (List.mem_append_right _ (List.mem_append_right _ (List.mem_append_right _ (List.mem_append_right _ (List.mem_append_right _ (List.mem_append_right _ (List.mem_append_right _ (List.mem_append_right _ (List.mem_append_right _ (List.mem_append_right _ (List.mem_append_right _ (List.mem_append_right _ (List.mem_append_right _ (List.mem_append_left _ h))))))))))))))))))))))))
theorem wc_16 {w : Cond} (h : w ∈ wsL_law_r16) : w ∈ wsL_law := List.mem_append_left _ (List.mem_append_left _ (List.mem_append_left _ (List.mem_append_left _ (List.mem_append_left _ (List.mem_append_left _ (List.mem_append_left _ (List.mem_append_left _ (List.mem_append_left _ (List.mem_append_left _ (List.mem_append_right _ (List.mem_append_right _ (List.mem_append_right _ (List.mem_append_right _ (List.mem_append_right _ (List.mem_append_right _ (List.mem_append_right _ (List.mem_append_right _ (List.mem_append_right _ (List.mem_append_right _ (List.mem_append_right _ (List.mem_append_right _ (List.mem_append_right _ (List.mem_append_right _ (List.mem_append_right _ (List.mem_append_left _ h)))))))))))))))))))))))))
theorem wc_17 {w : Cond} (h : w ∈ wsL_law_r17) : w ∈ wsL_law := List.mem_append_left _ (List.mem_append_left _ (List.mem_append_left _ (List.mem_append_left _ (List.mem_append_left _ (List.mem_append_left _ (List.mem_append_left _ (List.mem_append_left _ (List.mem_append_left _ (List.mem_append_left _ (List.mem_append_right _ (List.mem_append_right _ (List.mem_append_right _ (List.mem_append_right _ (List.mem_append_right _ (List.mem_append_right _ (List.mem_append_right _ (List.mem_append_right _ (List.mem_append_right _ (List.mem_append_right _ (List.mem_append_right _ (List.mem_append_right _ (List.mem_append_right _ (List.mem_append_right _ (List.mem_append_right _ (List.mem_append_right _ (List.mem_append_left _ h))))))))))))))))))))))))))
theorem wc_18 {w : Cond} (h : w ∈ wsL_law_r18) : w ∈ wsL_law := List.mem_append_left _ (List.mem_append_left _ (List.mem_append_left _ (List.mem_append_left _ (List.mem_append_left _ (List.mem_append_left _ (List.mem_append_left _ (List.mem_append_left _ (List.mem_append_left _ (List.mem_append_left _ (List.mem_append_right _ (List.mem_append_right _ (List.mem_append_right _ (List.mem_append_right _ (List.mem_append_right _ (List.mem_append_right _ (List.mem_append_right _ (List.mem_append_right _ (List.mem_append_right _ (List.mem_append_right _ (List.mem_append_right _ (List.mem_append_right _ (List.mem_append_right _ (List.mem_append_right _ (List.mem_append_right _ (List.mem_append_right _ (List.mem_append_right _ (List.mem_append_left _ h)))))))))))))))))))))))))))
theorem wc_19 {w : Cond} (h : w ∈ wsL_law_r19) : w ∈ wsL_law := List.mem_append_left _ (List.mem_append_left _ (List.mem_append_left _ (List.mem_append_left _ (List.mem_append_left _ (List.mem_append_left _ (List.mem_append_left _ (List.mem_append_left _ (List.mem_append_left _ (List.mem_append_left _ (List.mem_append_right _ (List.mem_append_right _ (List.mem_append_right _ (List.mem_append_right _ (List.mem_append_right _ (List.mem_append_right _ (List.mem_append_right _ (List.mem_append_right _ (List.mem_append_right _ (List.mem_append_right _ (List.mem_append_right _ (List.mem_append_right _ (List.mem_append_right _ (List.mem_append_right _ (List.mem_append_right _ (List.mem_append_right _ (List.mem_append_right _ (List.mem_append_right _ (List.mem_append_left _ h))))))))))))))))))))))))))))
theorem wc_20 {w : Cond} (h : w ∈ wsL_law_r20) : w ∈ wsL_law := List.mem_append_left _ (List.mem_append_left _ (List.mem_append_left _ (List.mem_append_left _ (List.mem_append_left _ (List.mem_append_left _ (List.mem_append_left _ (List.mem_append_left _ (List.mem_append_left _ (List.mem_append_left _ (List.mem_append_right _ (List.mem_append_right _ (List.mem_append_right _ (List.mem_append_right _ (List.mem_append_right _ (List.mem_append_right _ (List.mem_append_right _ (List.mem_append_right _ (List.mem_append_right _ (List.mem_append_right _ (List.mem_append_right _ (List.mem_append_right _ (List.mem_append_right _ (List.mem_append_right _ (List.mem_append_right _ (List.mem_append_right _ (List.mem_append_right _ (List.mem_append_right _ (List.mem_append_right _ (List.mem_append_left _ h)))))))))))))))))))))))))))))
theorem wc_21 {w : Cond} (h : w ∈ wsL_law_r21) : w ∈ wsL_law := List.mem_append_left _ (List.mem_append_left _ (List.mem_append_left _ (List.mem_append_left _ (List.mem_append_left _ (List.mem_append_left _ (List.mem_append_left _ (List.mem_append_left _ (List.mem_append_left _ (List.mem_append_left _ (List.mem_append_right _ (List.mem_append_right _ (List.mem_append_right _ (List.mem_append_right _ (List.mem_append_right _ (List.mem_append_right _ (List.mem_append_right _ (List.mem_append_right _ (List.mem_append_right _ (List.mem_append_right _ (List.mem_append_right _ (List.mem_append_right _ (List.mem_append_right _ (List.mem_append_right _ (List.mem_append_right _ (List.mem_append_right _ (List.mem_append_right _ (List.mem_append_right _ (List.mem_append_right _ (List.mem_append_right _ (List.mem_append_left _ h))))))))))))))))))))))))))))))
theorem wc_22 {w : Cond} (h : w ∈ wsL_law_r22) : w ∈ wsL_law := List.mem_append_left _ (List.mem_append_left _ (List.mem_append_left _ (List.mem_append_left _ (List.mem_append_left _ (List.mem_append_left _ (List.mem_append_left _ (List.mem_append_left _ (List.mem_append_left _ (List.mem_append_left _ (List.mem_append_right _ (List.mem_append_right _ (List.mem_append_right _ (List.mem_append_right _ (List.mem_append_right _ (List.mem_append_right _ (List.mem_append_right _ (List.mem_append_right _ (List.mem_append_right _ (List.mem_append_right _ (List.mem_append_right _ (List.mem_append_right _ (List.mem_append_right _ (List.mem_append_right _ (List.mem_append_right _ (List.mem_append_right _ (List.mem_append_right _ (List.mem_append_right _ (List.mem_append_right _ (List.mem_append_right _ (List.mem_append_right _ (List.mem_append_left _ h)))))))))))))))))))))))))))))))
theorem wc_23 {w : Cond} (h : w ∈ wsL_law_r23) : w ∈ wsL_law := List.mem_append_left _ (List.mem_append_left _ (List.mem_append_left _ (List.mem_append_left _ (List.mem_append_left _ (List.mem_append_left _ (List.mem_append_left _ (List.mem_append_left _ (List.mem_append_left _ (List.mem_append_left _ (List.mem_append_right _ (List.mem_append_right _ (List.mem_append_right _ (List.mem_append_right _ (List.mem_append_right _ (List.mem_append_right _ (List.mem_append_right _ (List.mem_append_right _ (List.mem_append_right _ (List.mem_append_right _ (List.mem_append_right _ (List.mem_append_right _ (List.mem_append_right _ (List.mem_append_right _ (List.mem_append_right _ (List.mem_append_right _ (List.mem_append_right _ (List.mem_append_right _ (List.mem_append_right _ (List.mem_append_right _ (List.mem_append_right _ (List.mem_append_right _ (List.mem_append_left _ h))))))))))))))))))))))))))))))))
theorem wc_24 {w : Cond} (h : w ∈ wsL_law_r24) : w ∈ wsL_law := List.mem_append_left _ (List.mem_append_left _ (List.mem_append_left _ (List.mem_append_left _ (List.mem_append_left _ (List.mem_append_left _ (List.mem_append_left _ (List.mem_append_left _ (List.mem_append_left _ (List.mem_append_left _ (List.mem_append_right _ (List.mem_append_right _ (List.mem_append_right _ (List.mem_append_right _ (List.mem_append_right _ (List.mem_append_right _ (List.mem_append_right _ (List.mem_append_right _ (List.mem_append_right _ (List.mem_append_right _ (List.mem_append_right _ (List.mem_append_right _ (List.mem_append_right _ (List.mem_append_right _ (List.mem_append_right _ (List.mem_append_right _ (List.mem_append_right _ (List.mem_append_right _ (List.mem_append_right _ (List.mem_append_right _ (List.mem_append_right _ (List.mem_append_right _ (List.mem_append_right _ (List.mem_append_left _ h)))))))))))))))))))))))))))))))))
theorem wc_25 {w : Cond} (h : w ∈ wsL_law_r25) : w ∈ wsL_law := List.mem_append_left _ (List.mem_append_left _ (List.mem_append_left _ (List.mem_append_left _ (List.mem_append_left _ (List.mem_append_left _ (List.mem_append_left _ (List.mem_append_left _ (List.mem_append_left _ (List.mem_append_left _ (List.mem_append_right _ (List.mem_append_right _ (List.mem_append_right _ (List.mem_append_right _ (List.mem_append_right _ (List.mem_append_right _ (List.mem_append_right _ (List.mem_append_right _ (List.mem_append_right _ (List.mem_append_right _ (List.mem_append_right _ (List.mem_append_right _ (List.mem_append_right _ (List.mem_append_right _ (List.mem_append_right _ (List.mem_append_right _ (List.mem_append_right _ (List.mem_append_right _ (List.mem_append_right _ (List.mem_append_right _ (List.mem_append_right _ (List.mem_append_right _ (List.mem_append_right _ (List.mem_append_right _ (List.mem_append_left _ h))))))))))))))))))))))))))))))))))
theorem wc_26 {w : Cond} (h : w ∈ wsL_law_r26) : w ∈ wsL_law := List.mem_append_left _ (List.mem_append_left _ (List.mem_append_left _ (List.mem_append_left _ (List.mem_append_left _ (List.mem_append_left _ (List.mem_append_left _ (List.mem_append_left _ (List.mem_append_left _ (List.mem_append_left _ (List.mem_append_right _ (List.mem_append_right _ (List.mem_append_right _ (List.mem_append_right _ (List.mem_append_right _ (List.mem_append_right _ (List.mem_append_right _ (List.mem_append_right _ (List.mem_append_right _ (List.mem_append_right _ (List.mem_append_right _ (List.mem_append_right _ (List.mem_append_right _ (List.mem_append_right _ (List.mem_append_right _ (List.mem_append_right _ (List.mem_append_right _ (List.mem_append_right _ (List.mem_append_right _ (List.mem_append_right _ (List.mem_append_right _ (List.mem_append_right _ (List.mem_append_right _ (List.mem_append_right _ (List.mem_append_right _ (List.mem_append_left _ h)))))))))))))))))))))))))))))))))))
theorem wc_27 {w : Cond} (h : w ∈ wsL_law_r27) : w ∈ wsL_law := List.mem_append_left _ (List.mem_append_left _ (List.mem_append_left _ (List.mem_append_left _ (List.mem_append_left _ (List.mem_append_left _ (List.mem_append_left _ (List.mem_append_left _ (List.mem_append_left _ (List.mem_append_left _ (List.mem_append_right _ (List.mem_append_right _ (List.mem_append_right _ (List.mem_append_right _ (List.mem_append_right _ (List.mem_append_right _ (List.mem_append_right _ (List.mem_append_right _ (List.mem_append_right _ (List.mem_append_right _ (List.mem_append_right _ (List.mem_append_right _ (List.mem_append_right _ (List.mem_append_right _ (List.mem_append_right _ (List.mem_append_right _ (List.mem_append_right _ (List.mem_append_right _ (List.mem_append_right _ (List.mem_append_right _ (List.mem_append_right _ (List.mem_append_right _ (List.mem_append_right _ (List.mem_append_right _ (List.mem_append_right _ (List.mem_append_right _ (List.mem_append_left _ h))))))))))))))))))))))))))))))))))))
theorem wc_28 {w : Cond} (h : w ∈ wsL_law_r28) : w ∈ wsL_law := List.mem_append_left _ (List.mem_append_left _ (List.mem_append_left _ (List.mem_append_left _ (List.mem_append_left _ (List.mem_append_left _ (List.mem_append_left _ (List.mem_append_left _ (List.mem_append_left _ (List.mem_append_left _ (List.mem_append_right _ (List.mem_append_right _ (List.mem_append_right _ (List.mem_append_right _ (List.mem_append_right _ (List.mem_append_right _ (List.mem_append_right _ (List.mem_append_right _ (List.mem_append_right _ (List.mem_append_right _ (List.mem_append_right _ (List.mem_append_right _ (List.mem_append_right _ (List.mem_append_right _ (List.mem_append_right _ (List.mem_append_right _ (List.mem_append_right _ (List.mem_append_right _ (List.mem_append_right _ (List.mem_append_right _ (List.mem_append_right _ (List.mem_append_right _ (List.mem_append_right _ (List.mem_append_right _ (List.mem_append_right _ (List.mem_append_right _ (List.mem_append_right _ (List.mem_append_left _ h)))))))))))))))))))))))))))))))))))))
theorem wc_29 {w : Cond} (h : w ∈ wsL_law_r29) : w ∈ wsL_law := List.mem_append_left _ (List.mem_append_left _ (List.mem_append_left _ (List.mem_append_left _ (List.mem_append_left _ (List.mem_append_left _ (List.mem_append_left _ (List.mem_append_left _ (List.mem_append_left _ (List.mem_append_left _ (List.mem_append_right _ (List.mem_append_right _ (List.mem_append_right _ (List.mem_append_right _ (List.mem_append_right _ (List.mem_append_right _ (List.mem_append_right _ (List.mem_append_right _ (List.mem_append_right _ (List.mem_append_right _ (List.mem_append_right _ (List.mem_append_right _ (List.mem_append_right _ (List.mem_append_right _ (List.mem_append_right _ (List.mem_append_right _ (List.mem_append_right _ (List.mem_append_right _ (List.mem_append_right _ (List.mem_append_right _ (List.mem_append_right _ (List.mem_append_right _ (List.mem_append_right _ (List.mem_append_right _ (List.mem_append_right _ (List.mem_append_right _ (List.mem_append_right _ (List.mem_append_right _ (List.mem_append_left _ h))))))))))))))))))))))))))))))))))))))
theorem wc_30 {w : Cond} (h : w ∈ wsL_law_r30) : w ∈ wsL_law := List.mem_append_left _ (List.mem_append_left _ (List.mem_append_left _ (List.mem_append_left _ (List.mem_append_left _ (List.mem_append_left _ (List.mem_append_left _ (List.mem_append_left _ (List.mem_append_left _ (List.mem_append_left _ (List.mem_append_right _ (List.mem_append_right _ (List.mem_append_right _ (List.mem_append_right _ (List.mem_append_right _ (List.mem_append_right _ (List.mem_append_right _ (List.mem_append_right _ (List.mem_append_right _ (List.mem_append_right _ (List.mem_append_right _ (List.mem_append_right _ (List.mem_append_right _ (List.mem_append_right _ (List.mem_append_right _ (List.mem_append_right _ (List.mem_append_right _ (List.mem_append_right _ (List.mem_append_right _ (List.mem_append_right _ (List.mem_append_right _ (List.mem_append_right _ (List.mem_append_right _ (List.mem_append_right _ (List.mem_append_right _ (List.mem_append_right _ (List.mem_append_right _ (List.mem_append_right _ (List.mem_append_right _ (List.mem_append_left _ h)))))))))))))))))))))))))))))))))))))))
theorem wc_31 {w : Cond} (h : w ∈ wsL_law_r31) : w ∈ wsL_law := List.mem_append_left _ (List.mem_append_left _ (List.mem_append_left _ (List.mem_append_left _ (List.mem_append_left _ (List.mem_append_left _ (List.mem_append_left _ (List.mem_append_left _ (List.mem_append_left _ (List.mem_append_left _ (List.mem_append_right _ (List.mem_append_right _ (List.mem_append_right _ (List.mem_append_right _ (List.mem_append_right _ (List.mem_append_right _ (List.mem_append_right _ (List.mem_append_right _ (List.mem_append_right _ (List.mem_append_right _ (List.mem_append_right _ (List.mem_append_right _ (List.mem_append_right _ (List.mem_append_right _ (List.mem_append_right _ (List.mem_append_right _ (List.mem_append_right _ (List.mem_append_right _ (List.mem_append_right _ (List.mem_append_right _ (List.mem_append_right _ (List.mem_append_right _ (List.mem_append_right _ (List.mem_append_right _ (List.mem_append_right _ (List.mem_append_right _ (List.mem_append_right _ (List.mem_append_right _ (List.mem_append_right _ (List.mem_append_right _ (List.mem_append_left _ h))))))))))))))))))))))))))))))))))))))))
theorem wc_32 {w : Cond} (h : w ∈ wsL_law_r32) : w ∈ wsL_law := List.mem_append_left _ (List.mem_append_left _ (List.mem_append_left _ (List.mem_append_left _ (List.mem_append_left _ (List.mem_append_left _ (List.mem_append_left _ (List.mem_append_left _ (List.mem_append_left _ (List.mem_append_left _ (List.mem_append_right _ (List.mem_append_right _ (List.mem_append_right _ (List.mem_append_right _ (List.mem_append_right _ (List.mem_append_right _ (List.mem_append_right _ (List.mem_append_right _ (List.mem_append_right _ (List.mem_append_right _ (List.mem_append_right _ (List.mem_append_right _ (List.mem_append_right _ (List.mem_append_right _ (List.mem_append_right _ (List.mem_append_right _ (List.mem_append_right _ (List.mem_append_right _ (List.mem_append_right _ (List.mem_append_right _ (List.mem_append_right _ (List.mem_append_right _ (List.mem_append_right _ (List.mem_append_right _ (List.mem_append_right _ (List.mem_append_right _ (List.mem_append_right _ (List.mem_append_right _ (List.mem_append_right _ (List.mem_append_right _ (List.mem_append_right _ (List.mem_append_left _ h)))))))))))))))))))))))))))))))))))))))))
theorem wc_33 {w : Cond} (h : w ∈ wsL_law_r33) : w ∈ wsL_law := List.mem_append_left _ (List.mem_append_left _ (List.mem_append_left _ (List.mem_append_left _ (List.mem_append_left _ (List.mem_append_left _ (List.mem_append_left _ (List.mem_append_left _ (List.mem_append_left _ (List.mem_append_left _ (List.mem_append_right _ (List.mem_append_right _ (List.mem_append_right _ (List.mem_append_right _ (List.mem_append_right _ (List.mem_append_right _ (List.mem_append_right _ (List.mem_append_right _ (List.mem_append_right _ (List.mem_append_right _ (List.mem_append_right _ (List.mem_append_right _ (List.mem_append_right _ (List.mem_append_right _ (List.mem_append_right _ (List.mem_append_right _ (List.mem_append_right _ (List.mem_append_right _ (List.mem_append_right _ (List.mem_append_right _ (List.mem_append_right _ (List.mem_append_right _ (List.mem_append_right _ (List.mem_append_right _ (List.mem_append_right _ (List.mem_append_right _ (List.mem_append_right _ (List.mem_append_right _ (List.mem_append_right _ (List.mem_append_right _ (List.mem_append_right _ (List.mem_append_right _ (List.mem_append_left _ h))))))))))))))))))))))))))))))))))))))))))
theorem wc_34 {w : Cond} (h : w ∈ wsL_law_r34) : w ∈ wsL_law := List.mem_append_left _ (List.mem_append_left _ (List.mem_append_left _ (List.mem_append_left _ (List.mem_append_left _ (List.mem_append_left _ (List.mem_append_left _ (List.mem_append_left _ (List.mem_append_left _ (List.mem_append_left _ (List.mem_append_right _ (List.mem_append_right _ (List.mem_append_right _ (List.mem_append_right _ (List.mem_append_right _ (List.mem_append_right _ (List.mem_append_right _ (List.mem_append_right _ (List.mem_append_right _ (List.mem_append_right _ (List.mem_append_right _ (List.mem_append_right _ (List.mem_append_right _ (List.mem_append_right _ (List.mem_append_right _ (List.mem_append_right _ (List.mem_append_right _ (List.mem_append_right _ (List.mem_append_right _ (List.mem_append_right _ (List.mem_append_right _ (List.mem_append_right _ (List.mem_append_right _ (List.mem_append_right _ (List.mem_append_right _ (List.mem_append_right _ (List.mem_append_right _ (List.mem_append_right _ (List.mem_append_right _ (List.mem_append_right _ (List.mem_append_right _ (List.mem_append_right _ (List.mem_append_right _ (List.mem_append_left _ h)))))))))))))))))))))))))))))))))))))))))))
theorem wc_35 {w : Cond} (h : w ∈ wsL_law_r35) : w ∈ wsL_law := List.mem_append_left _ (List.mem_append_left _ (List.mem_append_left _ (List.mem_append_left _ (List.mem_append_left _ (List.mem_append_left _ (List.mem_append_left _ (List.mem_append_left _ (List.mem_append_left _ (List.mem_append_left _ (List.mem_append_right _ (List.mem_append_right _ (List.mem_append_right _ (List.mem_append_right _ (List.mem_append_right _ (List.mem_append_right _ (List.mem_append_right _ (List.mem_append_right _ (List.mem_append_right _ (List.mem_append_right _ (List.mem_append_right _ (List.mem_append_right _ (List.mem_append_right _ (List.mem_append_right _ (List.mem_append_right _ (List.mem_append_right _ (List.mem_append_right _ (List.mem_append_right _ (List.mem_append_right _ (List.mem_append_right _ (List.mem_append_right _ (List.mem_append_right _ (List.mem_append_right _ (List.mem_append_right _ (List.mem_append_right _ (List.mem_append_right _ (List.mem_append_right _ (List.mem_append_right _ (List.mem_append_right _ (List.mem_append_right _ (List.mem_append_right _ (List.mem_append_right _ (List.mem_append_right _ (List.mem_append_right _ (List.mem_append_left _ h))))))))))))))))))))))))))))))))))))))))))))
theorem wc_36 {w : Cond} (h : w ∈ wsL_law_r36) : w ∈ wsL_law := List.mem_append_left _ (List.mem_append_left _ (List.mem_append_left _ (List.mem_append_left _ (List.mem_append_left _ (List.mem_append_left _ (List.mem_append_left _ (List.mem_append_left _ (List.mem_append_left _ (List.mem_append_left _ (List.mem_append_right _ (List.mem_append_right _ (List.mem_append_right _ (List.mem_append_right _ (List.mem_append_right _ (List.mem_append_right _ (List.mem_append_right _ (List.mem_append_right _ (List.mem_append_right _ (List.mem_append_right _ (List.mem_append_right _ (List.mem_append_right _ (List.mem_append_right _ (List.mem_append_right _ (List.mem_append_right _ (List.mem_append_right _ (List.mem_append_right _ (List.mem_append_right _ (List.mem_append_right _ (List.mem_append_right _ (List.mem_append_right _ (List.mem_append_right _ (List.mem_append_right _ (List.mem_append_right _ (List.mem_append_right _ (List.mem_append_right _ (List.mem_append_right _ (List.mem_append_right _ (List.mem_append_right _ (List.mem_append_right _ (List.mem_append_right _ (List.mem_append_right _ (List.mem_append_right _ (List.mem_append_right _ (List.mem_append_right _ (List.mem_append_left _ h)))))))))))))))))))))))))))))))))))))))))))))
theorem wc_37 {w : Cond} (h : w ∈ wsL_law_r37) : w ∈ wsL_law := List.mem_append_left _ (List.mem_append_left _ (List.mem_append_left _ (List.mem_append_left _ (List.mem_append_left _ (List.mem_append_left _ (List.mem_append_left _ (List.mem_append_left _ (List.mem_append_left _ (List.mem_append_left _ (List.mem_append_right _ (List.mem_append_right _ (List.mem_append_right _ (List.mem_append_right _ (List.mem_append_right _ (List.mem_append_right _ (List.mem_append_right _ (List.mem_append_right _ (List.mem_append_right _ (List.mem_append_right _ (List.mem_append_right _ (List.mem_append_right _ (List.mem_append_right _ (List.mem_append_right _ (List.mem_append_right _ (List.mem_append_right _ (List.mem_append_right _ (List.mem_append_right _ (List.mem_append_right _ (List.mem_append_right _ (List.mem_append_right _ (List.mem_append_right _ (List.mem_append_right _ (List.mem_append_right _ (List.mem_append_right _ (List.mem_append_right _ (List.mem_append_right _ (List.mem_append_right _ (List.mem_append_right _ (List.mem_append_right _ (List.mem_append_right _ (List.mem_append_right _ (List.mem_append_right _ (List.mem_append_right _ (List.mem_append_right _ (List.mem_append_right _ (List.mem_append_left _ h))))))))))))))))))))))))))))))))))))))))))))))
theorem wc_38 {w : Cond} (h : w ∈ wsL_law_r38) : w ∈ wsL_law := List.mem_append_left _ (List.mem_append_left _ (List.mem_append_left _ (List.mem_append_left _ (List.mem_append_left _ (List.mem_append_left _ (List.mem_append_left _ (List.mem_append_left _ (List.mem_append_left _ (List.mem_append_left _ (List.mem_append_right _ (List.mem_append_right _ (List.mem_append_right _ (List.mem_append_right _ (List.mem_append_right _ (List.mem_append_right _ (List.mem_append_right _ (List.mem_append_right _ (List.mem_append_right _ (List.mem_append_right _ (List.mem_append_right _ (List.mem_append_right _ (List.mem_append_right _ (List.mem_append_right _ (List.mem_append_right _ (List.mem_append_right _ (List.mem_append_right _ (List.mem_append_right _ (List.mem_append_right _ (List.mem_append_right _ (List.mem_append_right _ (List.mem_append_right _ (List.mem_append_right _ (List.mem_append_right _ (List.mem_append_right _ (List.mem_append_right _ (List.mem_append_right _ (List.mem_append_right _ (List.mem_append_right _ (List.mem_append_right _ (List.mem_append_right _ (List.mem_append_right _ (List.mem_append_right _ (List.mem_append_right _ (List.mem_append_right _ (List.mem_append_right _ (List.mem_append_right _ (List.mem_append_left _ h)))))))))))))))))))))))))))))))))))))))))))))))
theorem wc_39 {w : Cond} (h : w ∈ wsL_law_r39) : w ∈ wsL_law := List.mem_append_left _ (List.mem_append_left _ (List.mem_append_left _ (List.mem_append_left _ (List.mem_append_left _ (List.mem_append_left _ (List.mem_append_left _ (List.mem_append_left _ (List.mem_append_left _ (List.mem_append_left _ (List.mem_append_right _ (List.mem_append_right _ (List.mem_append_right _ (List.mem_append_right _ (List.mem_append_right _ (List.mem_append_right _ (List.mem_append_right _ (List.mem_append_right _ (List.mem_append_right _ (List.mem_append_right _ (List.mem_append_right _ (List.mem_append_right _ (List.mem_append_right _ (List.mem_append_right _ (List.mem_append_right _ (List.mem_append_right _ (List.mem_append_right _ (List.mem_append_right _ (List.mem_append_right _ (List.mem_append_right _ (List.mem_append_right _ (List.mem_append_right _ (List.mem_append_right _ (List.mem_append_right _ (List.mem_append_right _ (List.mem_append_right _ (List.mem_append_right _ (List.mem_append_right _ (List.mem_append_right _ (List.mem_append_right _ (List.mem_append_right _ (List.mem_append_right _ (List.mem_append_right _ (List.mem_append_right _ (List.mem_append_right _ (List.mem_append_right _ (List.mem_append_right _ (List.mem_append_right _ (List.mem_append_left _ h))))))))))))))))))))))))))))))))))))))))))))))))
theorem wc_40 {w : Cond} (h : w ∈ wsL_law_r40) : w ∈ wsL_law := List.mem_append_left _ (List.mem_append_left _ (List.mem_append_left _ (List.mem_append_left _ (List.mem_append_left _ (List.mem_append_left _ (List.mem_append_left _ (List.mem_append_left _ (List.mem_append_left _ (List.mem_append_left _ (List.mem_append_right _ (List.mem_append_right _ (List.mem_append_right _ (List.mem_append_right _ (List.mem_append_right _ (List.mem_append_right _ (List.mem_append_right _ (List.mem_append_right _ (List.mem_append_right _ (List.mem_append_right _ (List.mem_append_right _ (List.mem_append_right _ (List.mem_append_right _ (List.mem_append_right _ (List.mem_append_right _ (List.mem_append_right _ (List.mem_append_right _ (List.mem_append_right _ (List.mem_append_right _ (List.mem_append_right _ (List.mem_append_right _ (List.mem_append_right _ (List.mem_append_right _ (List.mem_append_right _ (List.mem_append_right _ (List.mem_append_right _ (List.mem_append_right _ (List.mem_append_right _ (List.mem_append_right _ (List.mem_append_right _ (List.mem_append_right _ (List.mem_append_right _ (List.mem_append_right _ (List.mem_append_right _ (List.mem_append_right _ (List.mem_append_right _ (List.mem_append_right _ (List.mem_append_right _ (List.mem_append_right _ (List.mem_append_left _ h)))))))))))))))))))))))))))))))))))))))))))))))))
theorem wc_41 {w : Cond} (h : w ∈ wsL_law_r41) : w ∈ wsL_law := List.mem_append_left _ (List.mem_append_left _ (List.mem_append_left _ (List.mem_append_left _ (List.mem_append_left _ (List.mem_append_left _ (List.mem_append_left _ (List.mem_append_left _ (List.mem_append_left _ (List.mem_append_left _ (List.mem_append_right _ (List.mem_append_right _ (List.mem_append_right _ (List.mem_append_right _ (List.mem_append_right _ (List.mem_append_right _ (List.mem_append_right _ (List.mem_append_right _ (List.mem_append_right _ (List.mem_append_right _ (List.mem_append_right _ (List.mem_append_right _ (List.mem_append_right _ (List.mem_append_right _ (List.mem_append_right _ (List.mem_append_right _ (List.mem_append_right _ (List.mem_append_right _ (List.mem_append_right _ (List.mem_append_right _ (List.mem_append_right _ (List.mem_append_right _ (List.mem_append_right _ (List.mem_append_right _ (List.mem_append_right _ (List.mem_append_right _ (List.mem_append_right _ (List.mem_append_right _ (List.mem_append_right _ (List.mem_append_right _ (List.mem_append_right _ (List.mem_append_right _ (List.mem_append_right _ (List.mem_append_right _ (List.mem_append_right _ (List.mem_append_right _ (List.mem_append_right _ (List.mem_append_right _ (List.mem_append_right _ (List.mem_append_right _ (List.mem_append_left _ h))))))))))))))))))))))))))))))))))))))))))))))))))
theorem wc_42 {w : Cond} (h : w ∈ wsL_law_r42) : w ∈ wsL_law := List.mem_append_left _ (List.mem_append_left _ (List.mem_append_left _ (List.mem_append_left _ (List.mem_append_left _ (List.mem_append_left _ (List.mem_append_left _ (List.mem_append_left _ (List.mem_append_left _ (List.mem_append_left _ (List.mem_append_right _ (List.mem_append_right _ (List.mem_append_right _ (List.mem_append_right _ (List.mem_append_right _ (List.mem_append_right _ (List.mem_append_right _ (List.mem_append_right _ (List.mem_append_right _ (List.mem_append_right _ (List.mem_append_right _ (List.mem_append_right _ (List.mem_append_right _ (List.mem_append_right _ (List.mem_append_right _ (List.mem_append_right _ (List.mem_append_right _ (List.mem_append_right _ (List.mem_append_right _ (List.mem_append_right _ (List.mem_append_right _ (List.mem_append_right _ (List.mem_append_right _ (List.mem_append_right _ (List.mem_append_right _ (List.mem_append_right _ (List.mem_append_right _ (List.mem_append_right _ (List.mem_append_right _ (List.mem_append_right _ (List.mem_append_right _ (List.mem_append_right _ (List.mem_append_right _ (List.mem_append_right _ (List.mem_append_right _ (List.mem_append_right _ (List.mem_append_right _ (List.mem_append_right _ (List.mem_append_right _ (List.mem_append_right _ (List.mem_append_right _ (List.mem_append_left _ h)))))))))))))))))))))))))))))))))))))))))))))))))))
theorem wc_43 {w : Cond} (h : w ∈ wsL_law_r43) : w ∈ wsL_law := List.mem_append_left _ (List.mem_append_left _ (List.mem_append_left _ (List.mem_append_left _ (List.mem_append_left _ (List.mem_append_left _ (List.mem_append_left _ (List.mem_append_left _ (List.mem_append_left _ (List.mem_append_left _ (List.mem_append_right _ (List.mem_append_right _ (List.mem_append_right _ (List.mem_append_right _ (List.mem_append_right _ (List.mem_append_right _ (List.mem_append_right _ (List.mem_append_right _ (List.mem_append_right _ (List.mem_append_right _ (List.mem_append_right _ (List.mem_append_right _ (List.mem_append_right _ (List.mem_append_right _ (List.mem_append_right _ (List.mem_append_right _ (List.mem_append_right _ (List.mem_append_right _ (List.mem_append_right _ (List.mem_append_right _ (List.mem_append_right _ (List.mem_append_right _ (List.mem_append_right _ (List.mem_append_right _ (List.mem_append_right _ (List.mem_append_right _ (List.mem_append_right _ (List.mem_append_right _ (List.mem_append_right _ (List.mem_append_right _ (List.mem_append_right _ (List.mem_append_right _ (List.mem_append_right _ (List.mem_append_right _ (List.mem_append_right _ (List.mem_append_right _ (List.mem_append_right _ (List.mem_append_right _ (List.mem_append_right _ (List.mem_append_right _ (List.mem_append_right _ (List.mem_append_right _ (List.mem_append_left _ h))))))))))))))))))))))))))))))))))))))))))))))))))))
theorem wc_44 {w : Cond} (h : w ∈ wsL_law_r44) : w ∈ wsL_law := List.mem_append_left _ (List.mem_append_left _ (List.mem_append_left _ (List.mem_append_left _ (List.mem_append_left _ (List.mem_append_left _ (List.mem_append_left _ (List.mem_append_left _ (List.mem_append_left _ (List.mem_append_left _ (List.mem_append_right _ (List.mem_append_right _ (List.mem_append_right _ (List.mem_append_right _ (List.mem_append_right _ (List.mem_append_right _ (List.mem_append_right _ (List.mem_append_right _ (List.mem_append_right _ (List.mem_append_right _ (List.mem_append_right _ (List.mem_append_right _ (List.mem_append_right _ (List.mem_append_right _ (List.mem_append_right _ (List.mem_append_right _ (List.mem_append_right _ (List.mem_append_right _ (List.mem_append_right _ (List.mem_append_right _ (List.mem_append_right _ (List.mem_append_right _ (List.mem_append_right _ (List.mem_append_right _ (List.mem_append_right _ (List.mem_append_right _ (List.mem_append_right _ (List.mem_append_right _ (List.mem_append_right _ (List.mem_append_right _ (List.mem_append_right _ (List.mem_append_right _ (List.mem_append_right _ (List.mem_append_right _ (List.mem_append_right _ (List.mem_append_right _ (List.mem_append_right _ (List.mem_append_right _ (List.mem_append_right _ (List.mem_append_right _ (List.mem_append_right _ (List.mem_append_right _ (List.mem_append_right _ (List.mem_append_left _ h)))))))))))))))))))))))))))))))))))))))))))))))))))))
theorem wc_45 {w : Cond} (h : w ∈ wsL_law_r45) : w ∈ wsL_law := List.mem_append_left _ (List.mem_append_left _ (List.mem_append_left _ (List.mem_append_left _ (List.mem_append_left _ (List.mem_append_left _ (List.mem_append_left _ (List.mem_append_left _ (List.mem_append_left _ (List.mem_append_left _ (List.mem_append_right _ (List.mem_append_right _ (List.mem_append_right _ (List.mem_append_right _ (List.mem_append_right _ (List.mem_append_right _ (List.mem_append_right _ (List.mem_append_right _ (List.mem_append_right _ (List.mem_append_right _ (List.mem_append_right _ (List.mem_append_right _ (List.mem_append_right _ (List.mem_append_right _ (List.mem_append_right _ (List.mem_append_right _ (List.mem_append_right _ (List.mem_append_right _ (List.mem_append_right _ (List.mem_append_right _ (List.mem_append_right _ (List.mem_append_right _ (List.mem_append_right _ (List.mem_append_right _ (List.mem_append_right _ (List.mem_append_right _ (List.mem_append_right _ (List.mem_append_right _ (List.mem_append_right _ (List.mem_append_right _ (List.mem_append_right _ (List.mem_append_right _ (List.mem_append_right _ (List.mem_append_right _ (List.mem_append_right _ (List.mem_append_right _ (List.mem_append_right _ (List.mem_append_right _ (List.mem_append_right _ (List.mem_append_right _ (List.mem_append_right _ (List.mem_append_right _ (List.mem_append_right _ (List.mem_append_right _ (List.mem_append_left _ h))))))))))))))))))))))))))))))))))))))))))))))))))))))
theorem wc_46 {w : Cond} (h : w ∈ wsL_law_r46) : w ∈ wsL_law := List.mem_append_left _ (List.mem_append_left _ (List.mem_append_left _ (List.mem_append_left _ (List.mem_append_left _ (List.mem_append_left _ (List.mem_append_left _ (List.mem_append_left _ (List.mem_append_left _ (List.mem_append_left _ (List.mem_append_right _ (List.mem_append_right _ (List.mem_append_right _ (List.mem_append_right _ (List.mem_append_right _ (List.mem_append_right _ (List.mem_append_right _ (List.mem_append_right _ (List.mem_append_right _ (List.mem_append_right _ (List.mem_append_right _ (List.mem_append_right _ (List.mem_append_right _ (List.mem_append_right _ (List.mem_append_right _ (List.mem_append_right _ (List.mem_append_right _ (List.mem_append_right _ (List.mem_append_right _ (List.mem_append_right _ (List.mem_append_right _ (List.mem_append_right _ (List.mem_append_right _ (List.mem_append_right _ (List.mem_append_right _ (List.mem_append_right _ (List.mem_append_right _ (List.mem_append_right _ (List.mem_append_right _ (List.mem_append_right _ (List.mem_append_right _ (List.mem_append_right _ (List.mem_append_right _ (List.mem_append_right _ (List.mem_append_right _ (List.mem_append_right _ (List.mem_append_right _ (List.mem_append_right _ (List.mem_append_right _ (List.mem_append_right _ (List.mem_append_right _ (List.mem_append_right _ (List.mem_append_right _ (List.mem_append_right _ (List.mem_append_right _ (List.mem_append_left _ h)))))))))))))))))))))))))))))))))))))))))))))))))))))))
theorem wc_47 {w : Cond} (h : w ∈ wsL_law_r47) : w ∈ wsL_law := List.mem_append_left _ (List.mem_append_left _ (List.mem_append_left _ (List.mem_append_left _ (List.mem_append_left _ (List.mem_append_left _ (List.mem_append_left _ (List.mem_append_left _ (List.mem_append_left _ (List.mem_append_left _ (List.mem_append_right _ (List.mem_append_right _ (List.mem_append_right _ (List.mem_append_right _ (List.mem_append_right _ (List.mem_append_right _ (List.mem_append_right _ (List.mem_append_right _ (List.mem_append_right _ (List.mem_append_right _ (List.mem_append_right _ (List.mem_append_right _ (List.mem_append_right _ (List.mem_append_right _ (List.mem_append_right _ (List.mem_append_right _ (List.mem_append_right _ (List.mem_append_right _ (List.mem_append_right _ (List.mem_append_right _ (List.mem_append_right _ (List.mem_append_right _ (List.mem_append_right _ (List.mem_append_right _ (List.mem_append_right _ (List.mem_append_right _ (List.mem_append_right _ (List.mem_append_right _ (List.mem_append_right _ (List.mem_append_right _ (List.mem_append_right _ (List.mem_append_right _ (List.mem_append_right _ (List.mem_append_right _ (List.mem_append_right _ (List.mem_append_right _ (List.mem_append_right _ (List.mem_append_right _ (List.mem_append_right _ (List.mem_append_right _ (List.mem_append_right _ (List.mem_append_right _ (List.mem_append_right _ (List.mem_append_right _ (List.mem_append_right _ (List.mem_append_right _ (h))))))))))))))))))))))))))))))))))))))))))))))))))))))))
theorem wd_0 : Cond.classLink RL 7 RX6 ∈ wsL_law := wc_1 (List.mem_of_getElem? (i := 0) rfl)
theorem wd_1 : Cond.instantiable RX6 5 ∈ wsL_law := wc_1 (List.mem_of_getElem? (i := 1) rfl)
theorem wd_2 : Cond.initialized RX6 ∈ wsL_law := wc_1 (List.mem_of_getElem? (i := 2) rfl)
theorem wd_3 : Cond.classLink RL 10 RX7 ∈ wsL_law := wc_1 (List.mem_of_getElem? (i := 3) rfl)
theorem wd_4 : Cond.instantiable RX7 11 ∈ wsL_law := wc_1 (List.mem_of_getElem? (i := 4) rfl)
theorem wd_5 : Cond.initialized RX7 ∈ wsL_law := wc_1 (List.mem_of_getElem? (i := 5) rfl)
theorem wd_6 : Cond.methodLink RL 9 yX6_init ∈ wsL_law := wc_1 (List.mem_of_getElem? (i := 6) rfl)
theorem wd_7 : Cond.instanceMethod yX6_init ∈ wsL_law := wc_1 (List.mem_of_getElem? (i := 7) rfl)
theorem wd_8 : Cond.code yX6_init cX6_init 1 none ∈ wsL_law := wc_1 (List.mem_of_getElem? (i := 8) rfl)
theorem wd_9 : Cond.methodLink RX6 1 objectInit ∈ wsL_law := wc_1 (List.mem_of_getElem? (i := 9) rfl)
theorem wd_10 : Cond.instanceMethod objectInit ∈ wsL_law := wc_1 (List.mem_of_getElem? (i := 10) rfl)
theorem wd_11 : Cond.code objectInit ⟨#[0xb1]⟩ 1 none ∈ wsL_law := wc_1 (List.mem_of_getElem? (i := 11) rfl)
theorem wd_12 : Cond.classLink RX6 7 RX1 ∈ wsL_law := wc_1 (List.mem_of_getElem? (i := 12) rfl)
theorem wd_13 : Cond.instantiable RX1 17 ∈ wsL_law := wc_1 (List.mem_of_getElem? (i := 13) rfl)
theorem wd_14 : Cond.initialized RX1 ∈ wsL_law := wc_1 (List.mem_of_getElem? (i := 14) rfl)
theorem wd_15 : Cond.fieldLink RX6 10 "QuietChecks" "disk" "LQuietChecks$Disk;" ∈ wsL_law := wc_1 (List.mem_of_getElem? (i := 15) rfl)
theorem wd_16 : Cond.fieldLink RX6 16 "QuietChecks" "trial" "LQuietChecks$Disk;" ∈ wsL_law := wc_1 (List.mem_of_getElem? (i := 16) rfl)
theorem wd_17 : Cond.classLink RX6 19 RX2 ∈ wsL_law := wc_1 (List.mem_of_getElem? (i := 17) rfl)
theorem wd_18 : Cond.instantiable RX2 2 ∈ wsL_law := wc_1 (List.mem_of_getElem? (i := 18) rfl)
theorem wd_19 : Cond.initialized RX2 ∈ wsL_law := wc_1 (List.mem_of_getElem? (i := 19) rfl)
theorem wd_20 : Cond.fieldLink RX6 22 "QuietChecks" "history" "LQuietChecks$History;" ∈ wsL_law := wc_1 (List.mem_of_getElem? (i := 20) rfl)
theorem wd_21 : Cond.classLink RX6 26 RX4 ∈ wsL_law := wc_1 (List.mem_of_getElem? (i := 21) rfl)
theorem wd_22 : Cond.instantiable RX4 8 ∈ wsL_law := wc_1 (List.mem_of_getElem? (i := 22) rfl)
theorem wd_23 : Cond.initialized RX4 ∈ wsL_law := wc_1 (List.mem_of_getElem? (i := 23) rfl)
theorem wd_24 : Cond.fieldLink RX6 29 "QuietChecks" "plan" "LQuietChecks$Plan;" ∈ wsL_law := wc_2 (List.mem_of_getElem? (i := 0) rfl)
theorem wd_25 : Cond.classLink RX6 33 RJ4 ∈ wsL_law := wc_2 (List.mem_of_getElem? (i := 1) rfl)
theorem wd_26 : Cond.instantiable RJ4 4 ∈ wsL_law := wc_2 (List.mem_of_getElem? (i := 2) rfl)
theorem wd_27 : Cond.initialized RJ4 ∈ wsL_law := wc_2 (List.mem_of_getElem? (i := 3) rfl)
theorem wd_28 : Cond.fieldLink RX6 36 "QuietChecks" "line" "Ljava/lang/StringBuilder;" ∈ wsL_law := wc_2 (List.mem_of_getElem? (i := 4) rfl)
theorem wd_29 : Cond.methodLink RX6 9 yX1_init ∈ wsL_law := wc_2 (List.mem_of_getElem? (i := 5) rfl)
theorem wd_30 : Cond.instanceMethod yX1_init ∈ wsL_law := wc_2 (List.mem_of_getElem? (i := 6) rfl)
theorem wd_31 : Cond.code yX1_init cX1_init 1 none ∈ wsL_law := wc_2 (List.mem_of_getElem? (i := 7) rfl)
theorem wd_32 : Cond.methodLink RX1 3 objectInit ∈ wsL_law := wc_2 (List.mem_of_getElem? (i := 8) rfl)
theorem wd_33 : Cond.arrayClass .int ∈ wsL_law := wc_2 (List.mem_of_getElem? (i := 9) rfl)
theorem wd_34 : Cond.fieldLink RX1 9 "QuietChecks$Disk" "settings" "[I" ∈ wsL_law := wc_2 (List.mem_of_getElem? (i := 10) rfl)
theorem wd_35 : Cond.fieldLink RX1 15 "QuietChecks$Disk" "stamps" "[I" ∈ wsL_law := wc_2 (List.mem_of_getElem? (i := 11) rfl)
theorem wd_36 : Cond.classLink RX1 18 RX5 ∈ wsL_law := wc_2 (List.mem_of_getElem? (i := 12) rfl)
theorem wd_37 : Cond.instantiable RX5 3 ∈ wsL_law := wc_2 (List.mem_of_getElem? (i := 13) rfl)
theorem wd_38 : Cond.initialized RX5 ∈ wsL_law := wc_2 (List.mem_of_getElem? (i := 14) rfl)
theorem wd_39 : Cond.fieldLink RX1 21 "QuietChecks$Disk" "spots" "LQuietChecks$Spots;" ∈ wsL_law := wc_2 (List.mem_of_getElem? (i := 15) rfl)
theorem wd_40 : Cond.classLink RX1 25 RX0 ∈ wsL_law := wc_2 (List.mem_of_getElem? (i := 16) rfl)
theorem wd_41 : Cond.instantiable RX0 2 ∈ wsL_law := wc_2 (List.mem_of_getElem? (i := 17) rfl)
theorem wd_42 : Cond.initialized RX0 ∈ wsL_law := wc_2 (List.mem_of_getElem? (i := 18) rfl)
theorem wd_43 : Cond.fieldLink RX1 28 "QuietChecks$Disk" "asked" "LQuietChecks$Asked;" ∈ wsL_law := wc_2 (List.mem_of_getElem? (i := 19) rfl)
theorem wd_44 : Cond.classLink RX1 32 RX3 ∈ wsL_law := wc_2 (List.mem_of_getElem? (i := 20) rfl)
theorem wd_45 : Cond.instantiable RX3 5 ∈ wsL_law := wc_2 (List.mem_of_getElem? (i := 21) rfl)
theorem wd_46 : Cond.initialized RX3 ∈ wsL_law := wc_2 (List.mem_of_getElem? (i := 22) rfl)
theorem wd_47 : Cond.fieldLink RX1 35 "QuietChecks$Disk" "log" "LQuietChecks$Log;" ∈ wsL_law := wc_2 (List.mem_of_getElem? (i := 23) rfl)
theorem wd_48 : Cond.fieldLink RX1 39 "QuietChecks$Disk" "way" "I" ∈ wsL_law := wc_3 (List.mem_of_getElem? (i := 0) rfl)
theorem wd_49 : Cond.fieldLink RX1 43 "QuietChecks$Disk" "spares" "I" ∈ wsL_law := wc_3 (List.mem_of_getElem? (i := 1) rfl)
theorem wd_50 : Cond.fieldLink RX1 46 "QuietChecks$Disk" "tick" "I" ∈ wsL_law := wc_3 (List.mem_of_getElem? (i := 2) rfl)
theorem wd_51 : Cond.fieldLink RX1 49 "QuietChecks$Disk" "quietTicks" "I" ∈ wsL_law := wc_3 (List.mem_of_getElem? (i := 3) rfl)
theorem wd_52 : Cond.fieldLink RX1 52 "QuietChecks$Disk" "checkSpan" "I" ∈ wsL_law := wc_3 (List.mem_of_getElem? (i := 4) rfl)
theorem wd_53 : Cond.fieldLink RX1 55 "QuietChecks$Disk" "checkDone" "I" ∈ wsL_law := wc_3 (List.mem_of_getElem? (i := 5) rfl)
theorem wd_54 : Cond.fieldLink RX1 58 "QuietChecks$Disk" "checkTicks" "I" ∈ wsL_law := wc_3 (List.mem_of_getElem? (i := 6) rfl)
theorem wd_55 : Cond.fieldLink RX1 61 "QuietChecks$Disk" "rowStart" "I" ∈ wsL_law := wc_3 (List.mem_of_getElem? (i := 7) rfl)
theorem wd_56 : Cond.fieldLink RX1 64 "QuietChecks$Disk" "ended" "I" ∈ wsL_law := wc_3 (List.mem_of_getElem? (i := 8) rfl)
theorem wd_57 : Cond.fieldLink RX1 67 "QuietChecks$Disk" "pauses" "I" ∈ wsL_law := wc_3 (List.mem_of_getElem? (i := 9) rfl)
theorem wd_58 : Cond.fieldLink RX1 70 "QuietChecks$Disk" "replaced" "I" ∈ wsL_law := wc_3 (List.mem_of_getElem? (i := 10) rfl)
theorem wd_59 : Cond.fieldLink RX1 73 "QuietChecks$Disk" "slowReads" "I" ∈ wsL_law := wc_3 (List.mem_of_getElem? (i := 11) rfl)
theorem wd_60 : Cond.methodLink RX1 79 arraycopyName ∈ wsL_law := wc_3 (List.mem_of_getElem? (i := 12) rfl)
theorem wd_61 : Cond.native arraycopyName ∈ wsL_law := wc_3 (List.mem_of_getElem? (i := 13) rfl)
theorem wd_62 : Cond.static arraycopyName ∈ wsL_law := wc_3 (List.mem_of_getElem? (i := 14) rfl)
theorem wd_63 : Cond.initialized "java/lang/System" ∈ wsL_law := wc_3 (List.mem_of_getElem? (i := 15) rfl)
theorem wd_64 : Cond.instanceMethod yX5_init ∈ wsL_law := wc_3 (List.mem_of_getElem? (i := 16) rfl)
theorem wd_65 : Cond.code yX5_init cX5_init 1 none ∈ wsL_law := wc_3 (List.mem_of_getElem? (i := 17) rfl)
theorem wd_66 : Cond.methodLink RX5 3 objectInit ∈ wsL_law := wc_3 (List.mem_of_getElem? (i := 18) rfl)
theorem wd_67 : Cond.fieldLink RX5 9 "QuietChecks$Spots" "spans" "[I" ∈ wsL_law := wc_3 (List.mem_of_getElem? (i := 19) rfl)
theorem wd_68 : Cond.fieldLink RX5 15 "QuietChecks$Spots" "tries" "[I" ∈ wsL_law := wc_3 (List.mem_of_getElem? (i := 20) rfl)
theorem wd_69 : Cond.fieldLink RX5 18 "QuietChecks$Spots" "size" "I" ∈ wsL_law := wc_3 (List.mem_of_getElem? (i := 21) rfl)
theorem wd_70 : Cond.instanceMethod yX0_init ∈ wsL_law := wc_3 (List.mem_of_getElem? (i := 22) rfl)
theorem wd_71 : Cond.code yX0_init cX0_init 1 none ∈ wsL_law := wc_3 (List.mem_of_getElem? (i := 23) rfl)
theorem wd_72 : Cond.methodLink RX0 3 objectInit ∈ wsL_law := wc_4 (List.mem_of_getElem? (i := 0) rfl)
theorem wd_73 : Cond.fieldLink RX0 9 "QuietChecks$Asked" "spans" "[I" ∈ wsL_law := wc_4 (List.mem_of_getElem? (i := 1) rfl)
theorem wd_74 : Cond.fieldLink RX0 15 "QuietChecks$Asked" "size" "I" ∈ wsL_law := wc_4 (List.mem_of_getElem? (i := 2) rfl)
theorem wd_75 : Cond.instanceMethod yX3_init ∈ wsL_law := wc_4 (List.mem_of_getElem? (i := 3) rfl)
theorem wd_76 : Cond.code yX3_init cX3_init 1 none ∈ wsL_law := wc_4 (List.mem_of_getElem? (i := 4) rfl)
theorem wd_77 : Cond.methodLink RX3 3 objectInit ∈ wsL_law := wc_4 (List.mem_of_getElem? (i := 5) rfl)
theorem wd_78 : Cond.fieldLink RX3 9 "QuietChecks$Log" "ticks" "[I" ∈ wsL_law := wc_4 (List.mem_of_getElem? (i := 6) rfl)
theorem wd_79 : Cond.fieldLink RX3 15 "QuietChecks$Log" "kinds" "[I" ∈ wsL_law := wc_4 (List.mem_of_getElem? (i := 7) rfl)
theorem wd_80 : Cond.fieldLink RX3 18 "QuietChecks$Log" "spans" "[I" ∈ wsL_law := wc_4 (List.mem_of_getElem? (i := 8) rfl)
theorem wd_81 : Cond.fieldLink RX3 21 "QuietChecks$Log" "next" "I" ∈ wsL_law := wc_4 (List.mem_of_getElem? (i := 9) rfl)
theorem wd_82 : Cond.fieldLink RX3 25 "QuietChecks$Log" "size" "I" ∈ wsL_law := wc_4 (List.mem_of_getElem? (i := 10) rfl)
theorem wd_83 : Cond.methodLink RX6 21 yX2_init ∈ wsL_law := wc_4 (List.mem_of_getElem? (i := 11) rfl)
theorem wd_84 : Cond.instanceMethod yX2_init ∈ wsL_law := wc_4 (List.mem_of_getElem? (i := 12) rfl)
theorem wd_85 : Cond.code yX2_init cX2_init 2 none ∈ wsL_law := wc_4 (List.mem_of_getElem? (i := 13) rfl)
theorem wd_86 : Cond.methodLink RX2 3 objectInit ∈ wsL_law := wc_4 (List.mem_of_getElem? (i := 14) rfl)
theorem wd_87 : Cond.classLink RX2 9 RX1 ∈ wsL_law := wc_4 (List.mem_of_getElem? (i := 15) rfl)
theorem wd_88 : Cond.fieldLink RX2 11 "QuietChecks$History" "rows" "[LQuietChecks$Disk;" ∈ wsL_law := wc_4 (List.mem_of_getElem? (i := 16) rfl)
theorem wd_89 : Cond.fieldLink RX2 17 "QuietChecks$History" "size" "I" ∈ wsL_law := wc_4 (List.mem_of_getElem? (i := 17) rfl)
theorem wd_90 : Cond.methodLink RX2 21 yX1_init ∈ wsL_law := wc_4 (List.mem_of_getElem? (i := 18) rfl)
theorem wd_91 : Cond.instanceMethod yX4_init ∈ wsL_law := wc_4 (List.mem_of_getElem? (i := 19) rfl)
theorem wd_92 : Cond.code yX4_init cX4_init 1 none ∈ wsL_law := wc_4 (List.mem_of_getElem? (i := 20) rfl)
theorem wd_93 : Cond.methodLink RX4 3 objectInit ∈ wsL_law := wc_4 (List.mem_of_getElem? (i := 21) rfl)
theorem wd_94 : Cond.arrayClass .char ∈ wsL_law := wc_4 (List.mem_of_getElem? (i := 22) rfl)
theorem wd_95 : Cond.fieldLink RX4 9 "QuietChecks$Plan" "text" "[C" ∈ wsL_law := wc_4 (List.mem_of_getElem? (i := 23) rfl)
theorem wd_96 : Cond.fieldLink RX4 15 "QuietChecks$Plan" "length" "I" ∈ wsL_law := wc_5 (List.mem_of_getElem? (i := 0) rfl)
theorem wd_97 : Cond.fieldLink RX4 19 "QuietChecks$Plan" "at" "I" ∈ wsL_law := wc_5 (List.mem_of_getElem? (i := 1) rfl)
theorem wd_98 : Cond.fieldLink RX4 22 "QuietChecks$Plan" "kinds" "[I" ∈ wsL_law := wc_5 (List.mem_of_getElem? (i := 2) rfl)
theorem wd_99 : Cond.fieldLink RX4 26 "QuietChecks$Plan" "firsts" "[I" ∈ wsL_law := wc_5 (List.mem_of_getElem? (i := 3) rfl)
theorem wd_100 : Cond.fieldLink RX4 29 "QuietChecks$Plan" "seconds" "[I" ∈ wsL_law := wc_5 (List.mem_of_getElem? (i := 4) rfl)
theorem wd_101 : Cond.fieldLink RX4 32 "QuietChecks$Plan" "commands" "I" ∈ wsL_law := wc_5 (List.mem_of_getElem? (i := 5) rfl)
theorem wd_102 : Cond.fieldLink RX4 35 "QuietChecks$Plan" "value" "I" ∈ wsL_law := wc_5 (List.mem_of_getElem? (i := 6) rfl)
theorem wd_103 : Cond.methodLink RX6 35 yJ4_init_da8c8 ∈ wsL_law := wc_5 (List.mem_of_getElem? (i := 7) rfl)
theorem wd_104 : Cond.instanceMethod yJ4_init_da8c8 ∈ wsL_law := wc_5 (List.mem_of_getElem? (i := 8) rfl)
theorem wd_105 : Cond.code yJ4_init_da8c8 cJ4_init_da8c8 1 none ∈ wsL_law := wc_5 (List.mem_of_getElem? (i := 9) rfl)
theorem wd_106 : Cond.methodLink RJ4 1 yJ5_init_d00df ∈ wsL_law := wc_5 (List.mem_of_getElem? (i := 10) rfl)
theorem wd_107 : Cond.instanceMethod yJ5_init_d00df ∈ wsL_law := wc_5 (List.mem_of_getElem? (i := 11) rfl)
theorem wd_108 : Cond.initialized RJ5 ∈ wsL_law := wc_5 (List.mem_of_getElem? (i := 12) rfl)
theorem wd_109 : Cond.code yJ5_init_d00df cJ5_init_d00df 2 none ∈ wsL_law := wc_5 (List.mem_of_getElem? (i := 13) rfl)
theorem wd_110 : Cond.methodLink RJ5 3 objectInit ∈ wsL_law := wc_5 (List.mem_of_getElem? (i := 14) rfl)
theorem wd_111 : Cond.fieldLink RJ5 18 "java/lang/String" "COMPACT_STRINGS" "Z" ∈ wsL_law := wc_5 (List.mem_of_getElem? (i := 15) rfl)
theorem wd_112 : Cond.arrayClass .byte ∈ wsL_law := wc_5 (List.mem_of_getElem? (i := 16) rfl)
theorem wd_113 : Cond.fieldLink RJ5 15 "java/lang/AbstractStringBuilder" "value" "[B" ∈ wsL_law := wc_5 (List.mem_of_getElem? (i := 17) rfl)
theorem wd_114 : Cond.fieldLink RJ5 22 "java/lang/AbstractStringBuilder" "coder" "B" ∈ wsL_law := wc_5 (List.mem_of_getElem? (i := 18) rfl)
theorem wd_115 : Cond.methodLink RJ5 26 yJ2_newBytesFor_77867 ∈ wsL_law := wc_5 (List.mem_of_getElem? (i := 19) rfl)
theorem wd_116 : Cond.static yJ2_newBytesFor_77867 ∈ wsL_law := wc_5 (List.mem_of_getElem? (i := 20) rfl)
theorem wd_117 : Cond.initialized RJ2 ∈ wsL_law := wc_5 (List.mem_of_getElem? (i := 21) rfl)
theorem wd_118 : Cond.code yJ2_newBytesFor_77867 cJ2_newBytesFor_77867 1 (some (.array .byte)) ∈ wsL_law := wc_5 (List.mem_of_getElem? (i := 22) rfl)
theorem wd_119 : Cond.methodLink RJ2 11 yJ2_newBytesLength_0f7a4 ∈ wsL_law := wc_5 (List.mem_of_getElem? (i := 23) rfl)
theorem wd_120 : Cond.static yJ2_newBytesLength_0f7a4 ∈ wsL_law := wc_6 (List.mem_of_getElem? (i := 0) rfl)
theorem wd_121 : Cond.code yJ2_newBytesLength_0f7a4 cJ2_newBytesLength_0f7a4 1 (some .int) ∈ wsL_law := wc_6 (List.mem_of_getElem? (i := 1) rfl)
theorem wd_122 : Cond.constant RJ2 20 (1073741823) ∈ wsL_law := wc_6 (List.mem_of_getElem? (i := 2) rfl)
theorem wd_123 : Cond.methodLink RL 12 yX7_init ∈ wsL_law := wc_6 (List.mem_of_getElem? (i := 3) rfl)
theorem wd_124 : Cond.instanceMethod yX7_init ∈ wsL_law := wc_6 (List.mem_of_getElem? (i := 4) rfl)
theorem wd_125 : Cond.code yX7_init cX7_init 1 none ∈ wsL_law := wc_6 (List.mem_of_getElem? (i := 5) rfl)
theorem wd_126 : Cond.methodLink RX7 1 objectInit ∈ wsL_law := wc_6 (List.mem_of_getElem? (i := 6) rfl)
theorem wd_127 : Cond.fieldLink RX7 7 "QuietChecksModel" "state" "[I" ∈ wsL_law := wc_6 (List.mem_of_getElem? (i := 7) rfl)
theorem wd_128 : Cond.fieldLink RX7 13 "QuietChecksModel" "kept" "[I" ∈ wsL_law := wc_6 (List.mem_of_getElem? (i := 8) rfl)
theorem wd_129 : Cond.fieldLink RX7 16 "QuietChecksModel" "history" "[I" ∈ wsL_law := wc_6 (List.mem_of_getElem? (i := 9) rfl)
theorem wd_130 : Cond.fieldLink RX7 19 "QuietChecksModel" "text" "[I" ∈ wsL_law := wc_6 (List.mem_of_getElem? (i := 10) rfl)
theorem wd_131 : Cond.methodLink RL 13 yX6_set ∈ wsL_law := wc_6 (List.mem_of_getElem? (i := 11) rfl)
theorem wd_132 : Cond.instanceMethod yX6_set ∈ wsL_law := wc_6 (List.mem_of_getElem? (i := 12) rfl)
theorem wd_133 : Cond.selects RX6 yX6_set yX6_set ∈ wsL_law := wc_6 (List.mem_of_getElem? (i := 13) rfl)
theorem wd_134 : Cond.code yX6_set cX6_set 3 (some .int) ∈ wsL_law := wc_6 (List.mem_of_getElem? (i := 14) rfl)
theorem wd_135 : Cond.methodLink RX6 40 yX2_draft ∈ wsL_law := wc_6 (List.mem_of_getElem? (i := 15) rfl)
theorem wd_136 : Cond.instanceMethod yX2_draft ∈ wsL_law := wc_6 (List.mem_of_getElem? (i := 16) rfl)
theorem wd_137 : Cond.selects RX2 yX2_draft yX2_draft ∈ wsL_law := wc_6 (List.mem_of_getElem? (i := 17) rfl)
theorem wd_138 : Cond.code yX2_draft cX2_draft 3 none ∈ wsL_law := wc_6 (List.mem_of_getElem? (i := 18) rfl)
theorem wd_139 : Cond.methodLink RX2 22 yX2_rowAt ∈ wsL_law := wc_6 (List.mem_of_getElem? (i := 19) rfl)
theorem wd_140 : Cond.instanceMethod yX2_rowAt ∈ wsL_law := wc_6 (List.mem_of_getElem? (i := 20) rfl)
theorem wd_141 : Cond.selects RX2 yX2_rowAt yX2_rowAt ∈ wsL_law := wc_6 (List.mem_of_getElem? (i := 21) rfl)
theorem wd_142 : Cond.code yX2_rowAt cX2_rowAt 2 (some (.object "QuietChecks$Disk")) ∈ wsL_law := wc_6 (List.mem_of_getElem? (i := 22) rfl)
theorem wd_143 : Cond.methodLink RX2 26 yX1_copyFrom ∈ wsL_law := wc_6 (List.mem_of_getElem? (i := 23) rfl)
theorem wd_144 : Cond.instanceMethod yX1_copyFrom ∈ wsL_law := wc_7 (List.mem_of_getElem? (i := 0) rfl)
theorem wd_145 : Cond.selects RX1 yX1_copyFrom yX1_copyFrom ∈ wsL_law := wc_7 (List.mem_of_getElem? (i := 1) rfl)
theorem wd_146 : Cond.code yX1_copyFrom cX1_copyFrom 2 none ∈ wsL_law := wc_7 (List.mem_of_getElem? (i := 2) rfl)
theorem wd_147 : Cond.methodLink RX1 85 yX5_copyFrom ∈ wsL_law := wc_7 (List.mem_of_getElem? (i := 3) rfl)
theorem wd_148 : Cond.instanceMethod yX5_copyFrom ∈ wsL_law := wc_7 (List.mem_of_getElem? (i := 4) rfl)
theorem wd_149 : Cond.selects RX5 yX5_copyFrom yX5_copyFrom ∈ wsL_law := wc_7 (List.mem_of_getElem? (i := 5) rfl)
theorem wd_150 : Cond.code yX5_copyFrom cX5_copyFrom 2 none ∈ wsL_law := wc_7 (List.mem_of_getElem? (i := 6) rfl)
theorem wd_151 : Cond.methodLink RX5 22 arraycopyName ∈ wsL_law := wc_7 (List.mem_of_getElem? (i := 7) rfl)
theorem wd_152 : Cond.methodLink RX1 89 yX0_copyFrom ∈ wsL_law := wc_7 (List.mem_of_getElem? (i := 8) rfl)
theorem wd_153 : Cond.instanceMethod yX0_copyFrom ∈ wsL_law := wc_7 (List.mem_of_getElem? (i := 9) rfl)
theorem wd_154 : Cond.selects RX0 yX0_copyFrom yX0_copyFrom ∈ wsL_law := wc_7 (List.mem_of_getElem? (i := 10) rfl)
theorem wd_155 : Cond.code yX0_copyFrom cX0_copyFrom 2 none ∈ wsL_law := wc_7 (List.mem_of_getElem? (i := 11) rfl)
theorem wd_156 : Cond.methodLink RX0 19 arraycopyName ∈ wsL_law := wc_7 (List.mem_of_getElem? (i := 12) rfl)
theorem wd_157 : Cond.methodLink RX1 92 yX3_copyFrom ∈ wsL_law := wc_7 (List.mem_of_getElem? (i := 13) rfl)
theorem wd_158 : Cond.instanceMethod yX3_copyFrom ∈ wsL_law := wc_7 (List.mem_of_getElem? (i := 14) rfl)
theorem wd_159 : Cond.selects RX3 yX3_copyFrom yX3_copyFrom ∈ wsL_law := wc_7 (List.mem_of_getElem? (i := 15) rfl)
theorem wd_160 : Cond.code yX3_copyFrom cX3_copyFrom 2 none ∈ wsL_law := wc_7 (List.mem_of_getElem? (i := 16) rfl)
theorem wd_161 : Cond.methodLink RX3 28 arraycopyName ∈ wsL_law := wc_7 (List.mem_of_getElem? (i := 17) rfl)
theorem wd_162 : Cond.methodLink RX6 44 yX1_changeSetting ∈ wsL_law := wc_7 (List.mem_of_getElem? (i := 18) rfl)
theorem wd_163 : Cond.instanceMethod yX1_changeSetting ∈ wsL_law := wc_7 (List.mem_of_getElem? (i := 19) rfl)
theorem wd_164 : Cond.selects RX1 yX1_changeSetting yX1_changeSetting ∈ wsL_law := wc_7 (List.mem_of_getElem? (i := 20) rfl)
theorem wd_165 : Cond.code yX1_changeSetting cX1_changeSetting 4 (some .int) ∈ wsL_law := wc_7 (List.mem_of_getElem? (i := 21) rfl)
theorem wd_166 : Cond.static yX6_isSetting ∈ wsL_law := wc_7 (List.mem_of_getElem? (i := 22) rfl)
theorem wd_167 : Cond.code yX6_isSetting cX6_isSetting 1 (some .boolean) ∈ wsL_law := wc_7 (List.mem_of_getElem? (i := 23) rfl)
theorem wd_168 : Cond.methodLink RX6 48 yX2_keep ∈ wsL_law := wc_8 (List.mem_of_getElem? (i := 0) rfl)
theorem wd_169 : Cond.instanceMethod yX2_keep ∈ wsL_law := wc_8 (List.mem_of_getElem? (i := 1) rfl)
theorem wd_170 : Cond.selects RX2 yX2_keep yX2_keep ∈ wsL_law := wc_8 (List.mem_of_getElem? (i := 2) rfl)
theorem wd_171 : Cond.code yX2_keep cX2_keep 2 (some .int) ∈ wsL_law := wc_8 (List.mem_of_getElem? (i := 3) rfl)
theorem wd_172 : Cond.methodLink RX2 30 yX2_discardOldest ∈ wsL_law := wc_8 (List.mem_of_getElem? (i := 4) rfl)
theorem wd_173 : Cond.instanceMethod yX2_discardOldest ∈ wsL_law := wc_8 (List.mem_of_getElem? (i := 5) rfl)
theorem wd_174 : Cond.selects RX2 yX2_discardOldest yX2_discardOldest ∈ wsL_law := wc_8 (List.mem_of_getElem? (i := 6) rfl)
theorem wd_175 : Cond.code yX2_discardOldest cX2_discardOldest 3 none ∈ wsL_law := wc_8 (List.mem_of_getElem? (i := 7) rfl)
theorem wd_176 : Cond.methodLink RL 17 yX7_set ∈ wsL_law := wc_8 (List.mem_of_getElem? (i := 8) rfl)
theorem wd_177 : Cond.instanceMethod yX7_set ∈ wsL_law := wc_8 (List.mem_of_getElem? (i := 9) rfl)
theorem wd_178 : Cond.selects RX7 yX7_set yX7_set ∈ wsL_law := wc_8 (List.mem_of_getElem? (i := 10) rfl)
theorem wd_179 : Cond.code yX7_set cX7_set 3 (some .int) ∈ wsL_law := wc_8 (List.mem_of_getElem? (i := 11) rfl)
theorem wd_180 : Cond.methodLink RX7 115 yX7_isSetting ∈ wsL_law := wc_8 (List.mem_of_getElem? (i := 12) rfl)
theorem wd_181 : Cond.static yX7_isSetting ∈ wsL_law := wc_8 (List.mem_of_getElem? (i := 13) rfl)
theorem wd_182 : Cond.code yX7_isSetting cX7_isSetting 1 (some .boolean) ∈ wsL_law := wc_8 (List.mem_of_getElem? (i := 14) rfl)
theorem wd_183 : Cond.methodLink RX7 30 yX7_within ∈ wsL_law := wc_8 (List.mem_of_getElem? (i := 15) rfl)
theorem wd_184 : Cond.static yX7_within ∈ wsL_law := wc_8 (List.mem_of_getElem? (i := 16) rfl)
theorem wd_185 : Cond.code yX7_within cX7_within 3 (some .boolean) ∈ wsL_law := wc_8 (List.mem_of_getElem? (i := 17) rfl)
theorem wd_186 : Cond.methodLink RX7 118 yX7_fits ∈ wsL_law := wc_8 (List.mem_of_getElem? (i := 18) rfl)
theorem wd_187 : Cond.static yX7_fits ∈ wsL_law := wc_8 (List.mem_of_getElem? (i := 19) rfl)
theorem wd_188 : Cond.code yX7_fits cX7_fits 2 (some .boolean) ∈ wsL_law := wc_8 (List.mem_of_getElem? (i := 20) rfl)
theorem wd_189 : Cond.methodLink RX7 122 yX7_sets ∈ wsL_law := wc_8 (List.mem_of_getElem? (i := 21) rfl)
theorem wd_190 : Cond.instanceMethod yX7_sets ∈ wsL_law := wc_8 (List.mem_of_getElem? (i := 22) rfl)
theorem wd_191 : Cond.selects RX7 yX7_sets yX7_sets ∈ wsL_law := wc_8 (List.mem_of_getElem? (i := 23) rfl)
theorem wd_192 : Cond.code yX7_sets cX7_sets 4 (some .int) ∈ wsL_law := wc_9 (List.mem_of_getElem? (i := 0) rfl)
theorem wd_193 : Cond.methodLink RX7 112 yX7_record ∈ wsL_law := wc_9 (List.mem_of_getElem? (i := 1) rfl)
theorem wd_194 : Cond.instanceMethod yX7_record ∈ wsL_law := wc_9 (List.mem_of_getElem? (i := 2) rfl)
theorem wd_195 : Cond.selects RX7 yX7_record yX7_record ∈ wsL_law := wc_9 (List.mem_of_getElem? (i := 3) rfl)
theorem wd_196 : Cond.code yX7_record cX7_record 2 none ∈ wsL_law := wc_9 (List.mem_of_getElem? (i := 4) rfl)
theorem wd_197 : Cond.fieldLink RX7 22 "QuietChecksModel" "recorded" "I" ∈ wsL_law := wc_9 (List.mem_of_getElem? (i := 5) rfl)
theorem wd_198 : Cond.methodLink RX7 26 yX7_copies ∈ wsL_law := wc_9 (List.mem_of_getElem? (i := 6) rfl)
theorem wd_199 : Cond.static yX7_copies ∈ wsL_law := wc_9 (List.mem_of_getElem? (i := 7) rfl)
theorem wd_200 : Cond.code yX7_copies cX7_copies 5 none ∈ wsL_law := wc_9 (List.mem_of_getElem? (i := 8) rfl)
theorem wd_201 : Cond.methodLink RL 18 yX6_setWay ∈ wsL_law := wc_9 (List.mem_of_getElem? (i := 9) rfl)
theorem wd_202 : Cond.instanceMethod yX6_setWay ∈ wsL_law := wc_9 (List.mem_of_getElem? (i := 10) rfl)
theorem wd_203 : Cond.selects RX6 yX6_setWay yX6_setWay ∈ wsL_law := wc_9 (List.mem_of_getElem? (i := 11) rfl)
theorem wd_204 : Cond.code yX6_setWay cX6_setWay 2 (some .int) ∈ wsL_law := wc_9 (List.mem_of_getElem? (i := 12) rfl)
theorem wd_205 : Cond.methodLink RX6 52 yX1_changeWay ∈ wsL_law := wc_9 (List.mem_of_getElem? (i := 13) rfl)
theorem wd_206 : Cond.instanceMethod yX1_changeWay ∈ wsL_law := wc_9 (List.mem_of_getElem? (i := 14) rfl)
theorem wd_207 : Cond.selects RX1 yX1_changeWay yX1_changeWay ∈ wsL_law := wc_9 (List.mem_of_getElem? (i := 15) rfl)
theorem wd_208 : Cond.code yX1_changeWay cX1_changeWay 3 (some .int) ∈ wsL_law := wc_9 (List.mem_of_getElem? (i := 16) rfl)
theorem wd_209 : Cond.methodLink RL 22 yX7_setWay ∈ wsL_law := wc_9 (List.mem_of_getElem? (i := 17) rfl)
theorem wd_210 : Cond.instanceMethod yX7_setWay ∈ wsL_law := wc_9 (List.mem_of_getElem? (i := 18) rfl)
theorem wd_211 : Cond.selects RX7 yX7_setWay yX7_setWay ∈ wsL_law := wc_9 (List.mem_of_getElem? (i := 19) rfl)
theorem wd_212 : Cond.code yX7_setWay cX7_setWay 2 (some .int) ∈ wsL_law := wc_9 (List.mem_of_getElem? (i := 20) rfl)
theorem wd_213 : Cond.methodLink RL 23 yX6_addSpares ∈ wsL_law := wc_9 (List.mem_of_getElem? (i := 21) rfl)
theorem wd_214 : Cond.instanceMethod yX6_addSpares ∈ wsL_law := wc_9 (List.mem_of_getElem? (i := 22) rfl)
theorem wd_215 : Cond.selects RX6 yX6_addSpares yX6_addSpares ∈ wsL_law := wc_9 (List.mem_of_getElem? (i := 23) rfl)
theorem wd_216 : Cond.code yX6_addSpares cX6_addSpares 2 (some .int) ∈ wsL_law := wc_10 (List.mem_of_getElem? (i := 0) rfl)
theorem wd_217 : Cond.methodLink RX6 55 yX1_takeSpares ∈ wsL_law := wc_10 (List.mem_of_getElem? (i := 1) rfl)
theorem wd_218 : Cond.instanceMethod yX1_takeSpares ∈ wsL_law := wc_10 (List.mem_of_getElem? (i := 2) rfl)
theorem wd_219 : Cond.selects RX1 yX1_takeSpares yX1_takeSpares ∈ wsL_law := wc_10 (List.mem_of_getElem? (i := 3) rfl)
theorem wd_220 : Cond.code yX1_takeSpares cX1_takeSpares 2 (some .int) ∈ wsL_law := wc_10 (List.mem_of_getElem? (i := 4) rfl)
theorem wd_221 : Cond.methodLink RL 26 yX7_addSpares ∈ wsL_law := wc_10 (List.mem_of_getElem? (i := 5) rfl)
theorem wd_222 : Cond.instanceMethod yX7_addSpares ∈ wsL_law := wc_10 (List.mem_of_getElem? (i := 6) rfl)
theorem wd_223 : Cond.selects RX7 yX7_addSpares yX7_addSpares ∈ wsL_law := wc_10 (List.mem_of_getElem? (i := 7) rfl)
theorem wd_224 : Cond.code yX7_addSpares cX7_addSpares 2 (some .int) ∈ wsL_law := wc_10 (List.mem_of_getElem? (i := 8) rfl)
theorem wd_225 : Cond.methodLink RL 27 yX6_spot ∈ wsL_law := wc_10 (List.mem_of_getElem? (i := 9) rfl)
theorem wd_226 : Cond.instanceMethod yX6_spot ∈ wsL_law := wc_10 (List.mem_of_getElem? (i := 10) rfl)
theorem wd_227 : Cond.selects RX6 yX6_spot yX6_spot ∈ wsL_law := wc_10 (List.mem_of_getElem? (i := 11) rfl)
theorem wd_228 : Cond.code yX6_spot cX6_spot 3 (some .int) ∈ wsL_law := wc_10 (List.mem_of_getElem? (i := 12) rfl)
theorem wd_229 : Cond.methodLink RX6 58 yX1_takeSpot ∈ wsL_law := wc_10 (List.mem_of_getElem? (i := 13) rfl)
theorem wd_230 : Cond.instanceMethod yX1_takeSpot ∈ wsL_law := wc_10 (List.mem_of_getElem? (i := 14) rfl)
theorem wd_231 : Cond.selects RX1 yX1_takeSpot yX1_takeSpot ∈ wsL_law := wc_10 (List.mem_of_getElem? (i := 15) rfl)
theorem wd_232 : Cond.code yX1_takeSpot cX1_takeSpot 3 (some .int) ∈ wsL_law := wc_10 (List.mem_of_getElem? (i := 16) rfl)
theorem wd_233 : Cond.static yX6_isSpan ∈ wsL_law := wc_10 (List.mem_of_getElem? (i := 17) rfl)
theorem wd_234 : Cond.code yX6_isSpan cX6_isSpan 1 (some .boolean) ∈ wsL_law := wc_10 (List.mem_of_getElem? (i := 18) rfl)
theorem wd_235 : Cond.methodLink RX1 108 yX5_append ∈ wsL_law := wc_10 (List.mem_of_getElem? (i := 19) rfl)
theorem wd_236 : Cond.instanceMethod yX5_append ∈ wsL_law := wc_10 (List.mem_of_getElem? (i := 20) rfl)
theorem wd_237 : Cond.selects RX5 yX5_append yX5_append ∈ wsL_law := wc_10 (List.mem_of_getElem? (i := 21) rfl)
theorem wd_238 : Cond.code yX5_append cX5_append 3 (some .boolean) ∈ wsL_law := wc_10 (List.mem_of_getElem? (i := 22) rfl)
theorem wd_239 : Cond.methodLink RX1 112 yX5_sizeOf ∈ wsL_law := wc_10 (List.mem_of_getElem? (i := 23) rfl)
theorem wd_240 : Cond.instanceMethod yX5_sizeOf ∈ wsL_law := wc_11 (List.mem_of_getElem? (i := 0) rfl)
theorem wd_241 : Cond.selects RX5 yX5_sizeOf yX5_sizeOf ∈ wsL_law := wc_11 (List.mem_of_getElem? (i := 1) rfl)
theorem wd_242 : Cond.code yX5_sizeOf cX5_sizeOf 4 (some .int) ∈ wsL_law := wc_11 (List.mem_of_getElem? (i := 2) rfl)
theorem wd_243 : Cond.methodLink RL 30 yX7_spot ∈ wsL_law := wc_11 (List.mem_of_getElem? (i := 3) rfl)
theorem wd_244 : Cond.instanceMethod yX7_spot ∈ wsL_law := wc_11 (List.mem_of_getElem? (i := 4) rfl)
theorem wd_245 : Cond.selects RX7 yX7_spot yX7_spot ∈ wsL_law := wc_11 (List.mem_of_getElem? (i := 5) rfl)
theorem wd_246 : Cond.code yX7_spot cX7_spot 4 (some .int) ∈ wsL_law := wc_11 (List.mem_of_getElem? (i := 6) rfl)
theorem wd_247 : Cond.methodLink RX7 131 yX7_whyNotSpot ∈ wsL_law := wc_11 (List.mem_of_getElem? (i := 7) rfl)
theorem wd_248 : Cond.instanceMethod yX7_whyNotSpot ∈ wsL_law := wc_11 (List.mem_of_getElem? (i := 8) rfl)
theorem wd_249 : Cond.selects RX7 yX7_whyNotSpot yX7_whyNotSpot ∈ wsL_law := wc_11 (List.mem_of_getElem? (i := 9) rfl)
theorem wd_250 : Cond.code yX7_whyNotSpot cX7_whyNotSpot 3 (some .int) ∈ wsL_law := wc_11 (List.mem_of_getElem? (i := 10) rfl)
theorem wd_251 : Cond.methodLink RX7 125 yX7_isSpan ∈ wsL_law := wc_11 (List.mem_of_getElem? (i := 11) rfl)
theorem wd_252 : Cond.static yX7_isSpan ∈ wsL_law := wc_11 (List.mem_of_getElem? (i := 12) rfl)
theorem wd_253 : Cond.code yX7_isSpan cX7_isSpan 1 (some .boolean) ∈ wsL_law := wc_11 (List.mem_of_getElem? (i := 13) rfl)
theorem wd_254 : Cond.methodLink RX7 134 yX7_adds ∈ wsL_law := wc_11 (List.mem_of_getElem? (i := 14) rfl)
theorem wd_255 : Cond.instanceMethod yX7_adds ∈ wsL_law := wc_11 (List.mem_of_getElem? (i := 15) rfl)
theorem wd_256 : Cond.selects RX7 yX7_adds yX7_adds ∈ wsL_law := wc_11 (List.mem_of_getElem? (i := 16) rfl)
theorem wd_257 : Cond.code yX7_adds cX7_adds 3 (some .int) ∈ wsL_law := wc_11 (List.mem_of_getElem? (i := 17) rfl)
theorem wd_258 : Cond.methodLink RX7 128 yX7_spotsMany ∈ wsL_law := wc_11 (List.mem_of_getElem? (i := 18) rfl)
theorem wd_259 : Cond.instanceMethod yX7_spotsMany ∈ wsL_law := wc_11 (List.mem_of_getElem? (i := 19) rfl)
theorem wd_260 : Cond.selects RX7 yX7_spotsMany yX7_spotsMany ∈ wsL_law := wc_11 (List.mem_of_getElem? (i := 20) rfl)
theorem wd_261 : Cond.code yX7_spotsMany cX7_spotsMany 4 (some .int) ∈ wsL_law := wc_11 (List.mem_of_getElem? (i := 21) rfl)
theorem wd_262 : Cond.methodLink RX7 73 yX7_spotSpan ∈ wsL_law := wc_11 (List.mem_of_getElem? (i := 22) rfl)
theorem wd_263 : Cond.instanceMethod yX7_spotSpan ∈ wsL_law := wc_11 (List.mem_of_getElem? (i := 23) rfl)
theorem wd_264 : Cond.selects RX7 yX7_spotSpan yX7_spotSpan ∈ wsL_law := wc_12 (List.mem_of_getElem? (i := 0) rfl)
theorem wd_265 : Cond.code yX7_spotSpan cX7_spotSpan 2 (some .int) ∈ wsL_law := wc_12 (List.mem_of_getElem? (i := 1) rfl)
theorem wd_266 : Cond.methodLink RL 31 yX6_ask ∈ wsL_law := wc_12 (List.mem_of_getElem? (i := 2) rfl)
theorem wd_267 : Cond.instanceMethod yX6_ask ∈ wsL_law := wc_12 (List.mem_of_getElem? (i := 3) rfl)
theorem wd_268 : Cond.selects RX6 yX6_ask yX6_ask ∈ wsL_law := wc_12 (List.mem_of_getElem? (i := 4) rfl)
theorem wd_269 : Cond.code yX6_ask cX6_ask 2 (some .int) ∈ wsL_law := wc_12 (List.mem_of_getElem? (i := 5) rfl)
theorem wd_270 : Cond.methodLink RX6 61 yX1_askByHand ∈ wsL_law := wc_12 (List.mem_of_getElem? (i := 6) rfl)
theorem wd_271 : Cond.instanceMethod yX1_askByHand ∈ wsL_law := wc_12 (List.mem_of_getElem? (i := 7) rfl)
theorem wd_272 : Cond.selects RX1 yX1_askByHand yX1_askByHand ∈ wsL_law := wc_12 (List.mem_of_getElem? (i := 8) rfl)
theorem wd_273 : Cond.code yX1_askByHand cX1_askByHand 2 (some .int) ∈ wsL_law := wc_12 (List.mem_of_getElem? (i := 9) rfl)
theorem wd_274 : Cond.methodLink RX1 116 yX0_placeOf ∈ wsL_law := wc_12 (List.mem_of_getElem? (i := 10) rfl)
theorem wd_275 : Cond.instanceMethod yX0_placeOf ∈ wsL_law := wc_12 (List.mem_of_getElem? (i := 11) rfl)
theorem wd_276 : Cond.selects RX0 yX0_placeOf yX0_placeOf ∈ wsL_law := wc_12 (List.mem_of_getElem? (i := 12) rfl)
theorem wd_277 : Cond.code yX0_placeOf cX0_placeOf 3 (some .int) ∈ wsL_law := wc_12 (List.mem_of_getElem? (i := 13) rfl)
theorem wd_278 : Cond.methodLink RX1 119 yX0_append ∈ wsL_law := wc_12 (List.mem_of_getElem? (i := 14) rfl)
theorem wd_279 : Cond.instanceMethod yX0_append ∈ wsL_law := wc_12 (List.mem_of_getElem? (i := 15) rfl)
theorem wd_280 : Cond.selects RX0 yX0_append yX0_append ∈ wsL_law := wc_12 (List.mem_of_getElem? (i := 16) rfl)
theorem wd_281 : Cond.code yX0_append cX0_append 2 (some .boolean) ∈ wsL_law := wc_12 (List.mem_of_getElem? (i := 17) rfl)
theorem wd_282 : Cond.methodLink RL 34 yX7_ask ∈ wsL_law := wc_12 (List.mem_of_getElem? (i := 18) rfl)
theorem wd_283 : Cond.instanceMethod yX7_ask ∈ wsL_law := wc_12 (List.mem_of_getElem? (i := 19) rfl)
theorem wd_284 : Cond.selects RX7 yX7_ask yX7_ask ∈ wsL_law := wc_12 (List.mem_of_getElem? (i := 20) rfl)
theorem wd_285 : Cond.code yX7_ask cX7_ask 3 (some .int) ∈ wsL_law := wc_12 (List.mem_of_getElem? (i := 21) rfl)
theorem wd_286 : Cond.methodLink RX7 140 yX7_whyNotAsked ∈ wsL_law := wc_12 (List.mem_of_getElem? (i := 22) rfl)
theorem wd_287 : Cond.instanceMethod yX7_whyNotAsked ∈ wsL_law := wc_12 (List.mem_of_getElem? (i := 23) rfl)
theorem wd_288 : Cond.selects RX7 yX7_whyNotAsked yX7_whyNotAsked ∈ wsL_law := wc_13 (List.mem_of_getElem? (i := 0) rfl)
theorem wd_289 : Cond.code yX7_whyNotAsked cX7_whyNotAsked 2 (some .int) ∈ wsL_law := wc_13 (List.mem_of_getElem? (i := 1) rfl)
theorem wd_290 : Cond.methodLink RX7 137 yX7_placeOf ∈ wsL_law := wc_13 (List.mem_of_getElem? (i := 2) rfl)
theorem wd_291 : Cond.instanceMethod yX7_placeOf ∈ wsL_law := wc_13 (List.mem_of_getElem? (i := 3) rfl)
theorem wd_292 : Cond.selects RX7 yX7_placeOf yX7_placeOf ∈ wsL_law := wc_13 (List.mem_of_getElem? (i := 4) rfl)
theorem wd_293 : Cond.code yX7_placeOf cX7_placeOf 4 (some .int) ∈ wsL_law := wc_13 (List.mem_of_getElem? (i := 5) rfl)
theorem wd_294 : Cond.methodLink RX7 143 yX7_asks ∈ wsL_law := wc_13 (List.mem_of_getElem? (i := 6) rfl)
theorem wd_295 : Cond.instanceMethod yX7_asks ∈ wsL_law := wc_13 (List.mem_of_getElem? (i := 7) rfl)
theorem wd_296 : Cond.selects RX7 yX7_asks yX7_asks ∈ wsL_law := wc_13 (List.mem_of_getElem? (i := 8) rfl)
theorem wd_297 : Cond.code yX7_asks cX7_asks 2 (some .int) ∈ wsL_law := wc_13 (List.mem_of_getElem? (i := 9) rfl)
theorem wd_298 : Cond.methodLink RL 35 yX6_unask ∈ wsL_law := wc_13 (List.mem_of_getElem? (i := 10) rfl)
theorem wd_299 : Cond.instanceMethod yX6_unask ∈ wsL_law := wc_13 (List.mem_of_getElem? (i := 11) rfl)
theorem wd_300 : Cond.selects RX6 yX6_unask yX6_unask ∈ wsL_law := wc_13 (List.mem_of_getElem? (i := 12) rfl)
theorem wd_301 : Cond.code yX6_unask cX6_unask 2 (some .int) ∈ wsL_law := wc_13 (List.mem_of_getElem? (i := 13) rfl)
theorem wd_302 : Cond.methodLink RX6 64 yX1_withdraw ∈ wsL_law := wc_13 (List.mem_of_getElem? (i := 14) rfl)
theorem wd_303 : Cond.instanceMethod yX1_withdraw ∈ wsL_law := wc_13 (List.mem_of_getElem? (i := 15) rfl)
theorem wd_304 : Cond.selects RX1 yX1_withdraw yX1_withdraw ∈ wsL_law := wc_13 (List.mem_of_getElem? (i := 16) rfl)
theorem wd_305 : Cond.code yX1_withdraw cX1_withdraw 2 (some .int) ∈ wsL_law := wc_13 (List.mem_of_getElem? (i := 17) rfl)
theorem wd_306 : Cond.methodLink RX1 124 yX0_drop ∈ wsL_law := wc_13 (List.mem_of_getElem? (i := 18) rfl)
theorem wd_307 : Cond.instanceMethod yX0_drop ∈ wsL_law := wc_13 (List.mem_of_getElem? (i := 19) rfl)
theorem wd_308 : Cond.selects RX0 yX0_drop yX0_drop ∈ wsL_law := wc_13 (List.mem_of_getElem? (i := 20) rfl)
theorem wd_309 : Cond.code yX0_drop cX0_drop 4 (some .boolean) ∈ wsL_law := wc_13 (List.mem_of_getElem? (i := 21) rfl)
theorem wd_310 : Cond.methodLink RX0 25 yX0_placeOf ∈ wsL_law := wc_13 (List.mem_of_getElem? (i := 22) rfl)
theorem wd_311 : Cond.methodLink RL 38 yX7_unask ∈ wsL_law := wc_13 (List.mem_of_getElem? (i := 23) rfl)
theorem wd_312 : Cond.instanceMethod yX7_unask ∈ wsL_law := wc_14 (List.mem_of_getElem? (i := 0) rfl)
theorem wd_313 : Cond.selects RX7 yX7_unask yX7_unask ∈ wsL_law := wc_14 (List.mem_of_getElem? (i := 1) rfl)
theorem wd_314 : Cond.code yX7_unask cX7_unask 3 (some .int) ∈ wsL_law := wc_14 (List.mem_of_getElem? (i := 2) rfl)
theorem wd_315 : Cond.methodLink RX7 89 yX7_takesOut ∈ wsL_law := wc_14 (List.mem_of_getElem? (i := 3) rfl)
theorem wd_316 : Cond.instanceMethod yX7_takesOut ∈ wsL_law := wc_14 (List.mem_of_getElem? (i := 4) rfl)
theorem wd_317 : Cond.selects RX7 yX7_takesOut yX7_takesOut ∈ wsL_law := wc_14 (List.mem_of_getElem? (i := 5) rfl)
theorem wd_318 : Cond.code yX7_takesOut cX7_takesOut 3 none ∈ wsL_law := wc_14 (List.mem_of_getElem? (i := 6) rfl)
theorem wd_319 : Cond.methodLink RL 39 yX6_read ∈ wsL_law := wc_14 (List.mem_of_getElem? (i := 7) rfl)
theorem wd_320 : Cond.instanceMethod yX6_read ∈ wsL_law := wc_14 (List.mem_of_getElem? (i := 8) rfl)
theorem wd_321 : Cond.selects RX6 yX6_read yX6_read ∈ wsL_law := wc_14 (List.mem_of_getElem? (i := 9) rfl)
theorem wd_322 : Cond.code yX6_read cX6_read 3 (some .int) ∈ wsL_law := wc_14 (List.mem_of_getElem? (i := 10) rfl)
theorem wd_323 : Cond.methodLink RX6 67 yX1_hostReads ∈ wsL_law := wc_14 (List.mem_of_getElem? (i := 11) rfl)
theorem wd_324 : Cond.instanceMethod yX1_hostReads ∈ wsL_law := wc_14 (List.mem_of_getElem? (i := 12) rfl)
theorem wd_325 : Cond.selects RX1 yX1_hostReads yX1_hostReads ∈ wsL_law := wc_14 (List.mem_of_getElem? (i := 13) rfl)
theorem wd_326 : Cond.code yX1_hostReads cX1_hostReads 3 (some .int) ∈ wsL_law := wc_14 (List.mem_of_getElem? (i := 14) rfl)
theorem wd_327 : Cond.constant RX1 127 (99999) ∈ wsL_law := wc_14 (List.mem_of_getElem? (i := 15) rfl)
theorem wd_328 : Cond.methodLink RX1 128 yX1_pauseCheck ∈ wsL_law := wc_14 (List.mem_of_getElem? (i := 16) rfl)
theorem wd_329 : Cond.instanceMethod yX1_pauseCheck ∈ wsL_law := wc_14 (List.mem_of_getElem? (i := 17) rfl)
theorem wd_330 : Cond.selects RX1 yX1_pauseCheck yX1_pauseCheck ∈ wsL_law := wc_14 (List.mem_of_getElem? (i := 18) rfl)
theorem wd_331 : Cond.code yX1_pauseCheck cX1_pauseCheck 1 none ∈ wsL_law := wc_14 (List.mem_of_getElem? (i := 19) rfl)
theorem wd_332 : Cond.methodLink RX1 176 Lib.Math.max.name ∈ wsL_law := wc_14 (List.mem_of_getElem? (i := 20) rfl)
theorem wd_333 : Cond.static Lib.Math.max.name ∈ wsL_law := wc_14 (List.mem_of_getElem? (i := 21) rfl)
theorem wd_334 : Cond.initialized "java/lang/Math" ∈ wsL_law := wc_14 (List.mem_of_getElem? (i := 22) rfl)
theorem wd_335 : Cond.code Lib.Math.max.name Lib.Math.max.code 2 (some .int) ∈ wsL_law := wc_14 (List.mem_of_getElem? (i := 23) rfl)
theorem wd_336 : Cond.methodLink RX1 134 yX3_append ∈ wsL_law := wc_15 (List.mem_of_getElem? (i := 0) rfl)
theorem wd_337 : Cond.instanceMethod yX3_append ∈ wsL_law := wc_15 (List.mem_of_getElem? (i := 1) rfl)
theorem wd_338 : Cond.selects RX3 yX3_append yX3_append ∈ wsL_law := wc_15 (List.mem_of_getElem? (i := 2) rfl)
theorem wd_339 : Cond.code yX3_append cX3_append 4 none ∈ wsL_law := wc_15 (List.mem_of_getElem? (i := 3) rfl)
theorem wd_340 : Cond.methodLink RX1 131 yX5_hasWeak ∈ wsL_law := wc_15 (List.mem_of_getElem? (i := 4) rfl)
theorem wd_341 : Cond.instanceMethod yX5_hasWeak ∈ wsL_law := wc_15 (List.mem_of_getElem? (i := 5) rfl)
theorem wd_342 : Cond.selects RX5 yX5_hasWeak yX5_hasWeak ∈ wsL_law := wc_15 (List.mem_of_getElem? (i := 6) rfl)
theorem wd_343 : Cond.code yX5_hasWeak cX5_hasWeak 4 (some .boolean) ∈ wsL_law := wc_15 (List.mem_of_getElem? (i := 7) rfl)
theorem wd_344 : Cond.methodLink RX1 137 yX1_askByHand ∈ wsL_law := wc_15 (List.mem_of_getElem? (i := 8) rfl)
theorem wd_345 : Cond.methodLink RL 42 yX7_read ∈ wsL_law := wc_15 (List.mem_of_getElem? (i := 9) rfl)
theorem wd_346 : Cond.instanceMethod yX7_read ∈ wsL_law := wc_15 (List.mem_of_getElem? (i := 10) rfl)
theorem wd_347 : Cond.selects RX7 yX7_read yX7_read ∈ wsL_law := wc_15 (List.mem_of_getElem? (i := 11) rfl)
theorem wd_348 : Cond.code yX7_read cX7_read 4 (some .int) ∈ wsL_law := wc_15 (List.mem_of_getElem? (i := 12) rfl)
theorem wd_349 : Cond.methodLink RX7 150 yX7_whyNotRead ∈ wsL_law := wc_15 (List.mem_of_getElem? (i := 13) rfl)
theorem wd_350 : Cond.instanceMethod yX7_whyNotRead ∈ wsL_law := wc_15 (List.mem_of_getElem? (i := 14) rfl)
theorem wd_351 : Cond.selects RX7 yX7_whyNotRead yX7_whyNotRead ∈ wsL_law := wc_15 (List.mem_of_getElem? (i := 15) rfl)
theorem wd_352 : Cond.code yX7_whyNotRead cX7_whyNotRead 3 (some .int) ∈ wsL_law := wc_15 (List.mem_of_getElem? (i := 16) rfl)
theorem wd_353 : Cond.constant RX7 146 (99999) ∈ wsL_law := wc_15 (List.mem_of_getElem? (i := 17) rfl)
theorem wd_354 : Cond.methodLink RX7 153 yX7_reads ∈ wsL_law := wc_15 (List.mem_of_getElem? (i := 18) rfl)
theorem wd_355 : Cond.instanceMethod yX7_reads ∈ wsL_law := wc_15 (List.mem_of_getElem? (i := 19) rfl)
theorem wd_356 : Cond.selects RX7 yX7_reads yX7_reads ∈ wsL_law := wc_15 (List.mem_of_getElem? (i := 20) rfl)
theorem wd_357 : Cond.code yX7_reads cX7_reads 3 (some .int) ∈ wsL_law := wc_15 (List.mem_of_getElem? (i := 21) rfl)
theorem wd_358 : Cond.methodLink RX7 96 yX7_logs ∈ wsL_law := wc_15 (List.mem_of_getElem? (i := 22) rfl)
theorem wd_359 : Cond.instanceMethod yX7_logs ∈ wsL_law := wc_15 (List.mem_of_getElem? (i := 23) rfl)
theorem wd_360 : Cond.selects RX7 yX7_logs yX7_logs ∈ wsL_law := wc_16 (List.mem_of_getElem? (i := 0) rfl)
theorem wd_361 : Cond.code yX7_logs cX7_logs 4 none ∈ wsL_law := wc_16 (List.mem_of_getElem? (i := 1) rfl)
theorem wd_362 : Cond.methodLink RX7 147 yX7_isSlow ∈ wsL_law := wc_16 (List.mem_of_getElem? (i := 2) rfl)
theorem wd_363 : Cond.instanceMethod yX7_isSlow ∈ wsL_law := wc_16 (List.mem_of_getElem? (i := 3) rfl)
theorem wd_364 : Cond.selects RX7 yX7_isSlow yX7_isSlow ∈ wsL_law := wc_16 (List.mem_of_getElem? (i := 4) rfl)
theorem wd_365 : Cond.code yX7_isSlow cX7_isSlow 4 (some .boolean) ∈ wsL_law := wc_16 (List.mem_of_getElem? (i := 5) rfl)
theorem wd_366 : Cond.methodLink RX7 70 yX7_spotTries ∈ wsL_law := wc_16 (List.mem_of_getElem? (i := 6) rfl)
theorem wd_367 : Cond.instanceMethod yX7_spotTries ∈ wsL_law := wc_16 (List.mem_of_getElem? (i := 7) rfl)
theorem wd_368 : Cond.selects RX7 yX7_spotTries yX7_spotTries ∈ wsL_law := wc_16 (List.mem_of_getElem? (i := 8) rfl)
theorem wd_369 : Cond.code yX7_spotTries cX7_spotTries 2 (some .int) ∈ wsL_law := wc_16 (List.mem_of_getElem? (i := 9) rfl)
theorem wd_370 : Cond.methodLink RL 43 yX6_quiet ∈ wsL_law := wc_16 (List.mem_of_getElem? (i := 10) rfl)
theorem wd_371 : Cond.instanceMethod yX6_quiet ∈ wsL_law := wc_16 (List.mem_of_getElem? (i := 11) rfl)
theorem wd_372 : Cond.selects RX6 yX6_quiet yX6_quiet ∈ wsL_law := wc_16 (List.mem_of_getElem? (i := 12) rfl)
theorem wd_373 : Cond.code yX6_quiet cX6_quiet 2 (some .int) ∈ wsL_law := wc_16 (List.mem_of_getElem? (i := 13) rfl)
theorem wd_374 : Cond.methodLink RX6 70 yX1_passQuietTicks ∈ wsL_law := wc_16 (List.mem_of_getElem? (i := 14) rfl)
theorem wd_375 : Cond.instanceMethod yX1_passQuietTicks ∈ wsL_law := wc_16 (List.mem_of_getElem? (i := 15) rfl)
theorem wd_376 : Cond.selects RX1 yX1_passQuietTicks yX1_passQuietTicks ∈ wsL_law := wc_16 (List.mem_of_getElem? (i := 16) rfl)
theorem wd_377 : Cond.code yX1_passQuietTicks cX1_passQuietTicks 4 (some .int) ∈ wsL_law := wc_16 (List.mem_of_getElem? (i := 17) rfl)
theorem wd_378 : Cond.methodLink RX1 140 yX1_passQuietTick ∈ wsL_law := wc_16 (List.mem_of_getElem? (i := 18) rfl)
theorem wd_379 : Cond.instanceMethod yX1_passQuietTick ∈ wsL_law := wc_16 (List.mem_of_getElem? (i := 19) rfl)
theorem wd_380 : Cond.selects RX1 yX1_passQuietTick yX1_passQuietTick ∈ wsL_law := wc_16 (List.mem_of_getElem? (i := 20) rfl)
theorem wd_381 : Cond.code yX1_passQuietTick cX1_passQuietTick 2 (some .int) ∈ wsL_law := wc_16 (List.mem_of_getElem? (i := 21) rfl)
theorem wd_382 : Cond.methodLink RX1 144 yX1_chooseSpan ∈ wsL_law := wc_16 (List.mem_of_getElem? (i := 22) rfl)
theorem wd_383 : Cond.instanceMethod yX1_chooseSpan ∈ wsL_law := wc_16 (List.mem_of_getElem? (i := 23) rfl)
theorem wd_384 : Cond.selects RX1 yX1_chooseSpan yX1_chooseSpan ∈ wsL_law := wc_17 (List.mem_of_getElem? (i := 0) rfl)
theorem wd_385 : Cond.code yX1_chooseSpan cX1_chooseSpan 6 (some .int) ∈ wsL_law := wc_17 (List.mem_of_getElem? (i := 1) rfl)
theorem wd_386 : Cond.methodLink RX1 160 yX1_isDue ∈ wsL_law := wc_17 (List.mem_of_getElem? (i := 2) rfl)
theorem wd_387 : Cond.instanceMethod yX1_isDue ∈ wsL_law := wc_17 (List.mem_of_getElem? (i := 3) rfl)
theorem wd_388 : Cond.selects RX1 yX1_isDue yX1_isDue ∈ wsL_law := wc_17 (List.mem_of_getElem? (i := 4) rfl)
theorem wd_389 : Cond.code yX1_isDue cX1_isDue 2 (some .boolean) ∈ wsL_law := wc_17 (List.mem_of_getElem? (i := 5) rfl)
theorem wd_390 : Cond.methodLink RX1 166 yX1_ageOf ∈ wsL_law := wc_17 (List.mem_of_getElem? (i := 6) rfl)
theorem wd_391 : Cond.instanceMethod yX1_ageOf ∈ wsL_law := wc_17 (List.mem_of_getElem? (i := 7) rfl)
theorem wd_392 : Cond.selects RX1 yX1_ageOf yX1_ageOf ∈ wsL_law := wc_17 (List.mem_of_getElem? (i := 8) rfl)
theorem wd_393 : Cond.code yX1_ageOf cX1_ageOf 2 (some .int) ∈ wsL_law := wc_17 (List.mem_of_getElem? (i := 9) rfl)
theorem wd_394 : Cond.methodLink RX1 163 yX1_rankOf ∈ wsL_law := wc_17 (List.mem_of_getElem? (i := 10) rfl)
theorem wd_395 : Cond.instanceMethod yX1_rankOf ∈ wsL_law := wc_17 (List.mem_of_getElem? (i := 11) rfl)
theorem wd_396 : Cond.selects RX1 yX1_rankOf yX1_rankOf ∈ wsL_law := wc_17 (List.mem_of_getElem? (i := 12) rfl)
theorem wd_397 : Cond.code yX1_rankOf cX1_rankOf 2 (some .int) ∈ wsL_law := wc_17 (List.mem_of_getElem? (i := 13) rfl)
theorem wd_398 : Cond.methodLink RX1 169 yX5_sumOf ∈ wsL_law := wc_17 (List.mem_of_getElem? (i := 14) rfl)
theorem wd_399 : Cond.instanceMethod yX5_sumOf ∈ wsL_law := wc_17 (List.mem_of_getElem? (i := 15) rfl)
theorem wd_400 : Cond.selects RX5 yX5_sumOf yX5_sumOf ∈ wsL_law := wc_17 (List.mem_of_getElem? (i := 16) rfl)
theorem wd_401 : Cond.code yX5_sumOf cX5_sumOf 5 (some .int) ∈ wsL_law := wc_17 (List.mem_of_getElem? (i := 17) rfl)
theorem wd_402 : Cond.methodLink RX5 28 Lib.Math.min.name ∈ wsL_law := wc_17 (List.mem_of_getElem? (i := 18) rfl)
theorem wd_403 : Cond.static Lib.Math.min.name ∈ wsL_law := wc_17 (List.mem_of_getElem? (i := 19) rfl)
theorem wd_404 : Cond.code Lib.Math.min.name Lib.Math.min.code 2 (some .int) ∈ wsL_law := wc_17 (List.mem_of_getElem? (i := 20) rfl)
theorem wd_405 : Cond.methodLink RX1 147 yX1_beginCheck ∈ wsL_law := wc_17 (List.mem_of_getElem? (i := 21) rfl)
theorem wd_406 : Cond.instanceMethod yX1_beginCheck ∈ wsL_law := wc_17 (List.mem_of_getElem? (i := 22) rfl)
theorem wd_407 : Cond.selects RX1 yX1_beginCheck yX1_beginCheck ∈ wsL_law := wc_17 (List.mem_of_getElem? (i := 23) rfl)
theorem wd_408 : Cond.code yX1_beginCheck cX1_beginCheck 2 none ∈ wsL_law := wc_18 (List.mem_of_getElem? (i := 0) rfl)
theorem wd_409 : Cond.methodLink RX1 173 yX1_ticksOfCheck ∈ wsL_law := wc_18 (List.mem_of_getElem? (i := 1) rfl)
theorem wd_410 : Cond.instanceMethod yX1_ticksOfCheck ∈ wsL_law := wc_18 (List.mem_of_getElem? (i := 2) rfl)
theorem wd_411 : Cond.selects RX1 yX1_ticksOfCheck yX1_ticksOfCheck ∈ wsL_law := wc_18 (List.mem_of_getElem? (i := 3) rfl)
theorem wd_412 : Cond.code yX1_ticksOfCheck cX1_ticksOfCheck 2 (some .int) ∈ wsL_law := wc_18 (List.mem_of_getElem? (i := 4) rfl)
theorem wd_413 : Cond.methodLink RX1 151 yX1_endCheck ∈ wsL_law := wc_18 (List.mem_of_getElem? (i := 5) rfl)
theorem wd_414 : Cond.instanceMethod yX1_endCheck ∈ wsL_law := wc_18 (List.mem_of_getElem? (i := 6) rfl)
theorem wd_415 : Cond.selects RX1 yX1_endCheck yX1_endCheck ∈ wsL_law := wc_18 (List.mem_of_getElem? (i := 7) rfl)
theorem wd_416 : Cond.code yX1_endCheck cX1_endCheck 4 none ∈ wsL_law := wc_18 (List.mem_of_getElem? (i := 8) rfl)
theorem wd_417 : Cond.methodLink RX1 154 yX1_clearCheck ∈ wsL_law := wc_18 (List.mem_of_getElem? (i := 9) rfl)
theorem wd_418 : Cond.instanceMethod yX1_clearCheck ∈ wsL_law := wc_18 (List.mem_of_getElem? (i := 10) rfl)
theorem wd_419 : Cond.selects RX1 yX1_clearCheck yX1_clearCheck ∈ wsL_law := wc_18 (List.mem_of_getElem? (i := 11) rfl)
theorem wd_420 : Cond.code yX1_clearCheck cX1_clearCheck 1 none ∈ wsL_law := wc_18 (List.mem_of_getElem? (i := 12) rfl)
theorem wd_421 : Cond.methodLink RX1 186 yX1_lookAtSpot ∈ wsL_law := wc_18 (List.mem_of_getElem? (i := 13) rfl)
theorem wd_422 : Cond.instanceMethod yX1_lookAtSpot ∈ wsL_law := wc_18 (List.mem_of_getElem? (i := 14) rfl)
theorem wd_423 : Cond.selects RX1 yX1_lookAtSpot yX1_lookAtSpot ∈ wsL_law := wc_18 (List.mem_of_getElem? (i := 15) rfl)
theorem wd_424 : Cond.code yX1_lookAtSpot cX1_lookAtSpot 4 none ∈ wsL_law := wc_18 (List.mem_of_getElem? (i := 16) rfl)
theorem wd_425 : Cond.methodLink RL 46 yX7_quiet ∈ wsL_law := wc_18 (List.mem_of_getElem? (i := 17) rfl)
theorem wd_426 : Cond.instanceMethod yX7_quiet ∈ wsL_law := wc_18 (List.mem_of_getElem? (i := 18) rfl)
theorem wd_427 : Cond.selects RX7 yX7_quiet yX7_quiet ∈ wsL_law := wc_18 (List.mem_of_getElem? (i := 19) rfl)
theorem wd_428 : Cond.code yX7_quiet cX7_quiet 3 (some .int) ∈ wsL_law := wc_18 (List.mem_of_getElem? (i := 20) rfl)
theorem wd_429 : Cond.methodLink RX7 156 yX7_whyNotQuiet ∈ wsL_law := wc_18 (List.mem_of_getElem? (i := 21) rfl)
theorem wd_430 : Cond.instanceMethod yX7_whyNotQuiet ∈ wsL_law := wc_18 (List.mem_of_getElem? (i := 22) rfl)
theorem wd_431 : Cond.selects RX7 yX7_whyNotQuiet yX7_whyNotQuiet ∈ wsL_law := wc_18 (List.mem_of_getElem? (i := 23) rfl)
theorem wd_432 : Cond.code yX7_whyNotQuiet cX7_whyNotQuiet 2 (some .int) ∈ wsL_law := wc_19 (List.mem_of_getElem? (i := 0) rfl)
theorem wd_433 : Cond.methodLink RX7 159 yX7_passes ∈ wsL_law := wc_19 (List.mem_of_getElem? (i := 1) rfl)
theorem wd_434 : Cond.instanceMethod yX7_passes ∈ wsL_law := wc_19 (List.mem_of_getElem? (i := 2) rfl)
theorem wd_435 : Cond.selects RX7 yX7_passes yX7_passes ∈ wsL_law := wc_19 (List.mem_of_getElem? (i := 3) rfl)
theorem wd_436 : Cond.code yX7_passes cX7_passes 4 (some .int) ∈ wsL_law := wc_19 (List.mem_of_getElem? (i := 4) rfl)
theorem wd_437 : Cond.methodLink RX7 109 yX7_passesTick ∈ wsL_law := wc_19 (List.mem_of_getElem? (i := 5) rfl)
theorem wd_438 : Cond.instanceMethod yX7_passesTick ∈ wsL_law := wc_19 (List.mem_of_getElem? (i := 6) rfl)
theorem wd_439 : Cond.selects RX7 yX7_passesTick yX7_passesTick ∈ wsL_law := wc_19 (List.mem_of_getElem? (i := 7) rfl)
theorem wd_440 : Cond.code yX7_passesTick cX7_passesTick 2 (some .int) ∈ wsL_law := wc_19 (List.mem_of_getElem? (i := 8) rfl)
theorem wd_441 : Cond.methodLink RX7 103 yX7_begins ∈ wsL_law := wc_19 (List.mem_of_getElem? (i := 9) rfl)
theorem wd_442 : Cond.instanceMethod yX7_begins ∈ wsL_law := wc_19 (List.mem_of_getElem? (i := 10) rfl)
theorem wd_443 : Cond.selects RX7 yX7_begins yX7_begins ∈ wsL_law := wc_19 (List.mem_of_getElem? (i := 11) rfl)
theorem wd_444 : Cond.code yX7_begins cX7_begins 2 none ∈ wsL_law := wc_19 (List.mem_of_getElem? (i := 12) rfl)
theorem wd_445 : Cond.methodLink RX7 86 yX7_nextSpan ∈ wsL_law := wc_19 (List.mem_of_getElem? (i := 13) rfl)
theorem wd_446 : Cond.instanceMethod yX7_nextSpan ∈ wsL_law := wc_19 (List.mem_of_getElem? (i := 14) rfl)
theorem wd_447 : Cond.selects RX7 yX7_nextSpan yX7_nextSpan ∈ wsL_law := wc_19 (List.mem_of_getElem? (i := 15) rfl)
theorem wd_448 : Cond.code yX7_nextSpan cX7_nextSpan 1 (some .int) ∈ wsL_law := wc_19 (List.mem_of_getElem? (i := 16) rfl)
theorem wd_449 : Cond.methodLink RX7 83 yX7_bestDue ∈ wsL_law := wc_19 (List.mem_of_getElem? (i := 17) rfl)
theorem wd_450 : Cond.instanceMethod yX7_bestDue ∈ wsL_law := wc_19 (List.mem_of_getElem? (i := 18) rfl)
theorem wd_451 : Cond.selects RX7 yX7_bestDue yX7_bestDue ∈ wsL_law := wc_19 (List.mem_of_getElem? (i := 19) rfl)
theorem wd_452 : Cond.code yX7_bestDue cX7_bestDue 6 (some .int) ∈ wsL_law := wc_19 (List.mem_of_getElem? (i := 20) rfl)
theorem wd_453 : Cond.methodLink RX7 67 yX7_age ∈ wsL_law := wc_19 (List.mem_of_getElem? (i := 21) rfl)
theorem wd_454 : Cond.instanceMethod yX7_age ∈ wsL_law := wc_19 (List.mem_of_getElem? (i := 22) rfl)
theorem wd_455 : Cond.selects RX7 yX7_age yX7_age ∈ wsL_law := wc_19 (List.mem_of_getElem? (i := 23) rfl)
theorem wd_456 : Cond.code yX7_age cX7_age 2 (some .int) ∈ wsL_law := wc_20 (List.mem_of_getElem? (i := 0) rfl)
theorem wd_457 : Cond.methodLink RX7 76 yX7_sumOf ∈ wsL_law := wc_20 (List.mem_of_getElem? (i := 1) rfl)
theorem wd_458 : Cond.instanceMethod yX7_sumOf ∈ wsL_law := wc_20 (List.mem_of_getElem? (i := 2) rfl)
theorem wd_459 : Cond.selects RX7 yX7_sumOf yX7_sumOf ∈ wsL_law := wc_20 (List.mem_of_getElem? (i := 3) rfl)
theorem wd_460 : Cond.code yX7_sumOf cX7_sumOf 6 (some .int) ∈ wsL_law := wc_20 (List.mem_of_getElem? (i := 4) rfl)
theorem wd_461 : Cond.methodLink RX7 79 yX7_isDue ∈ wsL_law := wc_20 (List.mem_of_getElem? (i := 5) rfl)
theorem wd_462 : Cond.instanceMethod yX7_isDue ∈ wsL_law := wc_20 (List.mem_of_getElem? (i := 6) rfl)
theorem wd_463 : Cond.selects RX7 yX7_isDue yX7_isDue ∈ wsL_law := wc_20 (List.mem_of_getElem? (i := 7) rfl)
theorem wd_464 : Cond.code yX7_isDue cX7_isDue 2 (some .boolean) ∈ wsL_law := wc_20 (List.mem_of_getElem? (i := 8) rfl)
theorem wd_465 : Cond.methodLink RX7 93 yX7_takes ∈ wsL_law := wc_20 (List.mem_of_getElem? (i := 9) rfl)
theorem wd_466 : Cond.instanceMethod yX7_takes ∈ wsL_law := wc_20 (List.mem_of_getElem? (i := 10) rfl)
theorem wd_467 : Cond.selects RX7 yX7_takes yX7_takes ∈ wsL_law := wc_20 (List.mem_of_getElem? (i := 11) rfl)
theorem wd_468 : Cond.code yX7_takes cX7_takes 2 (some .int) ∈ wsL_law := wc_20 (List.mem_of_getElem? (i := 12) rfl)
theorem wd_469 : Cond.methodLink RX7 106 yX7_endsCheck ∈ wsL_law := wc_20 (List.mem_of_getElem? (i := 13) rfl)
theorem wd_470 : Cond.instanceMethod yX7_endsCheck ∈ wsL_law := wc_20 (List.mem_of_getElem? (i := 14) rfl)
theorem wd_471 : Cond.selects RX7 yX7_endsCheck yX7_endsCheck ∈ wsL_law := wc_20 (List.mem_of_getElem? (i := 15) rfl)
theorem wd_472 : Cond.code yX7_endsCheck cX7_endsCheck 9 none ∈ wsL_law := wc_20 (List.mem_of_getElem? (i := 16) rfl)
theorem wd_473 : Cond.methodLink RX7 100 yX7_stops ∈ wsL_law := wc_20 (List.mem_of_getElem? (i := 17) rfl)
theorem wd_474 : Cond.instanceMethod yX7_stops ∈ wsL_law := wc_20 (List.mem_of_getElem? (i := 18) rfl)
theorem wd_475 : Cond.selects RX7 yX7_stops yX7_stops ∈ wsL_law := wc_20 (List.mem_of_getElem? (i := 19) rfl)
theorem wd_476 : Cond.code yX7_stops cX7_stops 1 none ∈ wsL_law := wc_20 (List.mem_of_getElem? (i := 20) rfl)
theorem wd_477 : Cond.methodLink RL 47 yX6_giveUp ∈ wsL_law := wc_20 (List.mem_of_getElem? (i := 21) rfl)
theorem wd_478 : Cond.instanceMethod yX6_giveUp ∈ wsL_law := wc_20 (List.mem_of_getElem? (i := 22) rfl)
theorem wd_479 : Cond.selects RX6 yX6_giveUp yX6_giveUp ∈ wsL_law := wc_20 (List.mem_of_getElem? (i := 23) rfl)
theorem wd_480 : Cond.code yX6_giveUp cX6_giveUp 1 (some .int) ∈ wsL_law := wc_21 (List.mem_of_getElem? (i := 0) rfl)
theorem wd_481 : Cond.methodLink RX6 73 yX1_dropCheck ∈ wsL_law := wc_21 (List.mem_of_getElem? (i := 1) rfl)
theorem wd_482 : Cond.instanceMethod yX1_dropCheck ∈ wsL_law := wc_21 (List.mem_of_getElem? (i := 2) rfl)
theorem wd_483 : Cond.selects RX1 yX1_dropCheck yX1_dropCheck ∈ wsL_law := wc_21 (List.mem_of_getElem? (i := 3) rfl)
theorem wd_484 : Cond.code yX1_dropCheck cX1_dropCheck 2 (some .int) ∈ wsL_law := wc_21 (List.mem_of_getElem? (i := 4) rfl)
theorem wd_485 : Cond.methodLink RL 51 yX7_giveUp ∈ wsL_law := wc_21 (List.mem_of_getElem? (i := 5) rfl)
theorem wd_486 : Cond.instanceMethod yX7_giveUp ∈ wsL_law := wc_21 (List.mem_of_getElem? (i := 6) rfl)
theorem wd_487 : Cond.selects RX7 yX7_giveUp yX7_giveUp ∈ wsL_law := wc_21 (List.mem_of_getElem? (i := 7) rfl)
theorem wd_488 : Cond.code yX7_giveUp cX7_giveUp 2 (some .int) ∈ wsL_law := wc_21 (List.mem_of_getElem? (i := 8) rfl)
theorem wd_489 : Cond.methodLink RL 52 yX6_count ∈ wsL_law := wc_21 (List.mem_of_getElem? (i := 9) rfl)
theorem wd_490 : Cond.instanceMethod yX6_count ∈ wsL_law := wc_21 (List.mem_of_getElem? (i := 10) rfl)
theorem wd_491 : Cond.selects RX6 yX6_count yX6_count ∈ wsL_law := wc_21 (List.mem_of_getElem? (i := 11) rfl)
theorem wd_492 : Cond.code yX6_count cX6_count 2 (some .int) ∈ wsL_law := wc_21 (List.mem_of_getElem? (i := 12) rfl)
theorem wd_493 : Cond.methodLink RX6 77 yX1_numberOfDisk ∈ wsL_law := wc_21 (List.mem_of_getElem? (i := 13) rfl)
theorem wd_494 : Cond.instanceMethod yX1_numberOfDisk ∈ wsL_law := wc_21 (List.mem_of_getElem? (i := 14) rfl)
theorem wd_495 : Cond.selects RX1 yX1_numberOfDisk yX1_numberOfDisk ∈ wsL_law := wc_21 (List.mem_of_getElem? (i := 15) rfl)
theorem wd_496 : Cond.code yX1_numberOfDisk cX1_numberOfDisk 2 (some .int) ∈ wsL_law := wc_21 (List.mem_of_getElem? (i := 16) rfl)
theorem wd_497 : Cond.methodLink RL 55 yX7_count ∈ wsL_law := wc_21 (List.mem_of_getElem? (i := 17) rfl)
theorem wd_498 : Cond.instanceMethod yX7_count ∈ wsL_law := wc_21 (List.mem_of_getElem? (i := 18) rfl)
theorem wd_499 : Cond.selects RX7 yX7_count yX7_count ∈ wsL_law := wc_21 (List.mem_of_getElem? (i := 19) rfl)
theorem wd_500 : Cond.code yX7_count cX7_count 2 (some .int) ∈ wsL_law := wc_21 (List.mem_of_getElem? (i := 20) rfl)
theorem wd_501 : Cond.methodLink RL 56 yX6_setting ∈ wsL_law := wc_21 (List.mem_of_getElem? (i := 21) rfl)
theorem wd_502 : Cond.instanceMethod yX6_setting ∈ wsL_law := wc_21 (List.mem_of_getElem? (i := 22) rfl)
theorem wd_503 : Cond.selects RX6 yX6_setting yX6_setting ∈ wsL_law := wc_21 (List.mem_of_getElem? (i := 23) rfl)
theorem wd_504 : Cond.code yX6_setting cX6_setting 2 (some .int) ∈ wsL_law := wc_22 (List.mem_of_getElem? (i := 0) rfl)
theorem wd_505 : Cond.methodLink RX6 80 yX6_isSetting ∈ wsL_law := wc_22 (List.mem_of_getElem? (i := 1) rfl)
theorem wd_506 : Cond.methodLink RL 59 yX7_setting ∈ wsL_law := wc_22 (List.mem_of_getElem? (i := 2) rfl)
theorem wd_507 : Cond.instanceMethod yX7_setting ∈ wsL_law := wc_22 (List.mem_of_getElem? (i := 3) rfl)
theorem wd_508 : Cond.selects RX7 yX7_setting yX7_setting ∈ wsL_law := wc_22 (List.mem_of_getElem? (i := 4) rfl)
theorem wd_509 : Cond.code yX7_setting cX7_setting 2 (some .int) ∈ wsL_law := wc_22 (List.mem_of_getElem? (i := 5) rfl)
theorem wd_510 : Cond.methodLink RL 60 yX6_span ∈ wsL_law := wc_22 (List.mem_of_getElem? (i := 6) rfl)
theorem wd_511 : Cond.instanceMethod yX6_span ∈ wsL_law := wc_22 (List.mem_of_getElem? (i := 7) rfl)
theorem wd_512 : Cond.selects RX6 yX6_span yX6_span ∈ wsL_law := wc_22 (List.mem_of_getElem? (i := 8) rfl)
theorem wd_513 : Cond.code yX6_span cX6_span 3 (some .int) ∈ wsL_law := wc_22 (List.mem_of_getElem? (i := 9) rfl)
theorem wd_514 : Cond.methodLink RX6 88 yX6_isSpan ∈ wsL_law := wc_22 (List.mem_of_getElem? (i := 10) rfl)
theorem wd_515 : Cond.methodLink RX6 91 yX1_numberOfSpan ∈ wsL_law := wc_22 (List.mem_of_getElem? (i := 11) rfl)
theorem wd_516 : Cond.instanceMethod yX1_numberOfSpan ∈ wsL_law := wc_22 (List.mem_of_getElem? (i := 12) rfl)
theorem wd_517 : Cond.selects RX1 yX1_numberOfSpan yX1_numberOfSpan ∈ wsL_law := wc_22 (List.mem_of_getElem? (i := 13) rfl)
theorem wd_518 : Cond.code yX1_numberOfSpan cX1_numberOfSpan 3 (some .int) ∈ wsL_law := wc_22 (List.mem_of_getElem? (i := 14) rfl)
theorem wd_519 : Cond.methodLink RX1 189 yX1_isOverdue ∈ wsL_law := wc_22 (List.mem_of_getElem? (i := 15) rfl)
theorem wd_520 : Cond.instanceMethod yX1_isOverdue ∈ wsL_law := wc_22 (List.mem_of_getElem? (i := 16) rfl)
theorem wd_521 : Cond.selects RX1 yX1_isOverdue yX1_isOverdue ∈ wsL_law := wc_22 (List.mem_of_getElem? (i := 17) rfl)
theorem wd_522 : Cond.code yX1_isOverdue cX1_isOverdue 2 (some .boolean) ∈ wsL_law := wc_22 (List.mem_of_getElem? (i := 18) rfl)
theorem wd_523 : Cond.methodLink RL 63 yX7_span ∈ wsL_law := wc_22 (List.mem_of_getElem? (i := 19) rfl)
theorem wd_524 : Cond.instanceMethod yX7_span ∈ wsL_law := wc_22 (List.mem_of_getElem? (i := 20) rfl)
theorem wd_525 : Cond.selects RX7 yX7_span yX7_span ∈ wsL_law := wc_22 (List.mem_of_getElem? (i := 21) rfl)
theorem wd_526 : Cond.code yX7_span cX7_span 3 (some .int) ∈ wsL_law := wc_22 (List.mem_of_getElem? (i := 22) rfl)
theorem wd_527 : Cond.methodLink RX7 162 yX7_ofSpan ∈ wsL_law := wc_22 (List.mem_of_getElem? (i := 23) rfl)
theorem wd_528 : Cond.instanceMethod yX7_ofSpan ∈ wsL_law := wc_23 (List.mem_of_getElem? (i := 0) rfl)
theorem wd_529 : Cond.selects RX7 yX7_ofSpan yX7_ofSpan ∈ wsL_law := wc_23 (List.mem_of_getElem? (i := 1) rfl)
theorem wd_530 : Cond.code yX7_ofSpan cX7_ofSpan 3 (some .int) ∈ wsL_law := wc_23 (List.mem_of_getElem? (i := 2) rfl)
theorem wd_531 : Cond.methodLink RL 64 yX6_tries ∈ wsL_law := wc_23 (List.mem_of_getElem? (i := 3) rfl)
theorem wd_532 : Cond.instanceMethod yX6_tries ∈ wsL_law := wc_23 (List.mem_of_getElem? (i := 4) rfl)
theorem wd_533 : Cond.selects RX6 yX6_tries yX6_tries ∈ wsL_law := wc_23 (List.mem_of_getElem? (i := 5) rfl)
theorem wd_534 : Cond.code yX6_tries cX6_tries 3 (some .int) ∈ wsL_law := wc_23 (List.mem_of_getElem? (i := 6) rfl)
theorem wd_535 : Cond.methodLink RX6 98 yX5_triesAt ∈ wsL_law := wc_23 (List.mem_of_getElem? (i := 7) rfl)
theorem wd_536 : Cond.instanceMethod yX5_triesAt ∈ wsL_law := wc_23 (List.mem_of_getElem? (i := 8) rfl)
theorem wd_537 : Cond.selects RX5 yX5_triesAt yX5_triesAt ∈ wsL_law := wc_23 (List.mem_of_getElem? (i := 9) rfl)
theorem wd_538 : Cond.code yX5_triesAt cX5_triesAt 5 (some .int) ∈ wsL_law := wc_23 (List.mem_of_getElem? (i := 10) rfl)
theorem wd_539 : Cond.methodLink RL 67 yX7_tries ∈ wsL_law := wc_23 (List.mem_of_getElem? (i := 11) rfl)
theorem wd_540 : Cond.instanceMethod yX7_tries ∈ wsL_law := wc_23 (List.mem_of_getElem? (i := 12) rfl)
theorem wd_541 : Cond.selects RX7 yX7_tries yX7_tries ∈ wsL_law := wc_23 (List.mem_of_getElem? (i := 13) rfl)
theorem wd_542 : Cond.code yX7_tries cX7_tries 5 (some .int) ∈ wsL_law := wc_23 (List.mem_of_getElem? (i := 14) rfl)
theorem wd_543 : Cond.methodLink RL 68 yX6_entries ∈ wsL_law := wc_23 (List.mem_of_getElem? (i := 15) rfl)
theorem wd_544 : Cond.instanceMethod yX6_entries ∈ wsL_law := wc_23 (List.mem_of_getElem? (i := 16) rfl)
theorem wd_545 : Cond.selects RX6 yX6_entries yX6_entries ∈ wsL_law := wc_23 (List.mem_of_getElem? (i := 17) rfl)
theorem wd_546 : Cond.code yX6_entries cX6_entries 1 (some .int) ∈ wsL_law := wc_23 (List.mem_of_getElem? (i := 18) rfl)
theorem wd_547 : Cond.methodLink RL 71 yX7_entries ∈ wsL_law := wc_23 (List.mem_of_getElem? (i := 19) rfl)
theorem wd_548 : Cond.instanceMethod yX7_entries ∈ wsL_law := wc_23 (List.mem_of_getElem? (i := 20) rfl)
theorem wd_549 : Cond.selects RX7 yX7_entries yX7_entries ∈ wsL_law := wc_23 (List.mem_of_getElem? (i := 21) rfl)
theorem wd_550 : Cond.code yX7_entries cX7_entries 1 (some .int) ∈ wsL_law := wc_23 (List.mem_of_getElem? (i := 22) rfl)
theorem wd_551 : Cond.methodLink RX7 34 yX7_entriesMany ∈ wsL_law := wc_23 (List.mem_of_getElem? (i := 23) rfl)
theorem wd_552 : Cond.instanceMethod yX7_entriesMany ∈ wsL_law := wc_24 (List.mem_of_getElem? (i := 0) rfl)
theorem wd_553 : Cond.selects RX7 yX7_entriesMany yX7_entriesMany ∈ wsL_law := wc_24 (List.mem_of_getElem? (i := 1) rfl)
theorem wd_554 : Cond.code yX7_entriesMany cX7_entriesMany 1 (some .int) ∈ wsL_law := wc_24 (List.mem_of_getElem? (i := 2) rfl)
theorem wd_555 : Cond.methodLink RL 72 yX6_entry ∈ wsL_law := wc_24 (List.mem_of_getElem? (i := 3) rfl)
theorem wd_556 : Cond.instanceMethod yX6_entry ∈ wsL_law := wc_24 (List.mem_of_getElem? (i := 4) rfl)
theorem wd_557 : Cond.selects RX6 yX6_entry yX6_entry ∈ wsL_law := wc_24 (List.mem_of_getElem? (i := 5) rfl)
theorem wd_558 : Cond.code yX6_entry cX6_entry 3 (some .int) ∈ wsL_law := wc_24 (List.mem_of_getElem? (i := 6) rfl)
theorem wd_559 : Cond.methodLink RX6 113 yX3_has ∈ wsL_law := wc_24 (List.mem_of_getElem? (i := 7) rfl)
theorem wd_560 : Cond.instanceMethod yX3_has ∈ wsL_law := wc_24 (List.mem_of_getElem? (i := 8) rfl)
theorem wd_561 : Cond.selects RX3 yX3_has yX3_has ∈ wsL_law := wc_24 (List.mem_of_getElem? (i := 9) rfl)
theorem wd_562 : Cond.code yX3_has cX3_has 2 (some .boolean) ∈ wsL_law := wc_24 (List.mem_of_getElem? (i := 10) rfl)
theorem wd_563 : Cond.methodLink RX6 116 yX3_tickAt ∈ wsL_law := wc_24 (List.mem_of_getElem? (i := 11) rfl)
theorem wd_564 : Cond.instanceMethod yX3_tickAt ∈ wsL_law := wc_24 (List.mem_of_getElem? (i := 12) rfl)
theorem wd_565 : Cond.selects RX3 yX3_tickAt yX3_tickAt ∈ wsL_law := wc_24 (List.mem_of_getElem? (i := 13) rfl)
theorem wd_566 : Cond.code yX3_tickAt cX3_tickAt 2 (some .int) ∈ wsL_law := wc_24 (List.mem_of_getElem? (i := 14) rfl)
theorem wd_567 : Cond.methodLink RX3 34 yX3_placeOf ∈ wsL_law := wc_24 (List.mem_of_getElem? (i := 15) rfl)
theorem wd_568 : Cond.instanceMethod yX3_placeOf ∈ wsL_law := wc_24 (List.mem_of_getElem? (i := 16) rfl)
theorem wd_569 : Cond.selects RX3 yX3_placeOf yX3_placeOf ∈ wsL_law := wc_24 (List.mem_of_getElem? (i := 17) rfl)
theorem wd_570 : Cond.code yX3_placeOf cX3_placeOf 2 (some .int) ∈ wsL_law := wc_24 (List.mem_of_getElem? (i := 18) rfl)
theorem wd_571 : Cond.methodLink RX3 38 yJ9_floorMod_7cf53 ∈ wsL_law := wc_24 (List.mem_of_getElem? (i := 19) rfl)
theorem wd_572 : Cond.static yJ9_floorMod_7cf53 ∈ wsL_law := wc_24 (List.mem_of_getElem? (i := 20) rfl)
theorem wd_573 : Cond.initialized RJ9 ∈ wsL_law := wc_24 (List.mem_of_getElem? (i := 21) rfl)
theorem wd_574 : Cond.code yJ9_floorMod_7cf53 cJ9_floorMod_7cf53 3 (some .int) ∈ wsL_law := wc_24 (List.mem_of_getElem? (i := 22) rfl)
theorem wd_575 : Cond.methodLink RX6 119 yX3_kindAt ∈ wsL_law := wc_24 (List.mem_of_getElem? (i := 23) rfl)
theorem wd_576 : Cond.instanceMethod yX3_kindAt ∈ wsL_law := wc_25 (List.mem_of_getElem? (i := 0) rfl)
theorem wd_577 : Cond.selects RX3 yX3_kindAt yX3_kindAt ∈ wsL_law := wc_25 (List.mem_of_getElem? (i := 1) rfl)
theorem wd_578 : Cond.code yX3_kindAt cX3_kindAt 2 (some .int) ∈ wsL_law := wc_25 (List.mem_of_getElem? (i := 2) rfl)
theorem wd_579 : Cond.methodLink RX6 122 yX3_spanAt ∈ wsL_law := wc_25 (List.mem_of_getElem? (i := 3) rfl)
theorem wd_580 : Cond.instanceMethod yX3_spanAt ∈ wsL_law := wc_25 (List.mem_of_getElem? (i := 4) rfl)
theorem wd_581 : Cond.selects RX3 yX3_spanAt yX3_spanAt ∈ wsL_law := wc_25 (List.mem_of_getElem? (i := 5) rfl)
theorem wd_582 : Cond.code yX3_spanAt cX3_spanAt 2 (some .int) ∈ wsL_law := wc_25 (List.mem_of_getElem? (i := 6) rfl)
theorem wd_583 : Cond.methodLink RX6 125 yX6_writeLine ∈ wsL_law := wc_25 (List.mem_of_getElem? (i := 7) rfl)
theorem wd_584 : Cond.instanceMethod yX6_writeLine ∈ wsL_law := wc_25 (List.mem_of_getElem? (i := 8) rfl)
theorem wd_585 : Cond.selects RX6 yX6_writeLine yX6_writeLine ∈ wsL_law := wc_25 (List.mem_of_getElem? (i := 9) rfl)
theorem wd_586 : Cond.code yX6_writeLine cX6_writeLine 2 none ∈ wsL_law := wc_25 (List.mem_of_getElem? (i := 10) rfl)
theorem wd_587 : Cond.methodLink RX6 208 yJ4_setLength_d00df ∈ wsL_law := wc_25 (List.mem_of_getElem? (i := 11) rfl)
theorem wd_588 : Cond.instanceMethod yJ4_setLength_d00df ∈ wsL_law := wc_25 (List.mem_of_getElem? (i := 12) rfl)
theorem wd_589 : Cond.selects RJ4 yJ4_setLength_d00df yJ4_setLength_d00df ∈ wsL_law := wc_25 (List.mem_of_getElem? (i := 13) rfl)
theorem wd_590 : Cond.code yJ4_setLength_d00df cJ4_setLength_d00df 2 none ∈ wsL_law := wc_25 (List.mem_of_getElem? (i := 14) rfl)
theorem wd_591 : Cond.methodLink RJ4 333 yJ5_setLength_d00df ∈ wsL_law := wc_25 (List.mem_of_getElem? (i := 15) rfl)
theorem wd_592 : Cond.sameMethod "java/lang/AbstractStringBuilder" "java/lang/AbstractStringBuilder" "setLength" "(I)V" ∈ wsL_law := wc_25 (List.mem_of_getElem? (i := 16) rfl)
theorem wd_593 : Cond.superclass RJ4 RJ5 ∈ wsL_law := wc_25 (List.mem_of_getElem? (i := 17) rfl)
theorem wd_594 : Cond.instanceMethod yJ5_setLength_d00df ∈ wsL_law := wc_25 (List.mem_of_getElem? (i := 18) rfl)
theorem wd_595 : Cond.code yJ5_setLength_d00df cJ5_setLength_d00df 2 none ∈ wsL_law := wc_25 (List.mem_of_getElem? (i := 19) rfl)
theorem wd_596 : Cond.fieldLink RJ5 79 "java/lang/AbstractStringBuilder" "count" "I" ∈ wsL_law := wc_25 (List.mem_of_getElem? (i := 20) rfl)
theorem wd_597 : Cond.fieldLink RJ5 73 "java/lang/AbstractStringBuilder" "maybeLatin1" "Z" ∈ wsL_law := wc_25 (List.mem_of_getElem? (i := 21) rfl)
theorem wd_598 : Cond.methodLink RJ5 100 ⟨"java/lang/AbstractStringBuilder", "ensureCapacityInternal", "(I)V"⟩ ∈ wsL_law := wc_25 (List.mem_of_getElem? (i := 22) rfl)
theorem wd_599 : Cond.sameMethod "java/lang/AbstractStringBuilder" "java/lang/AbstractStringBuilder" "ensureCapacityInternal" "(I)V" ∈ wsL_law := wc_25 (List.mem_of_getElem? (i := 23) rfl)
theorem wd_600 : Cond.selects RJ4 ⟨"java/lang/AbstractStringBuilder", "ensureCapacityInternal", "(I)V"⟩ yJ5_ensureCapacityInternal_d00df ∈ wsL_law := wc_26 (List.mem_of_getElem? (i := 0) rfl)
theorem wd_601 : Cond.instanceMethod yJ5_ensureCapacityInternal_d00df ∈ wsL_law := wc_26 (List.mem_of_getElem? (i := 1) rfl)
theorem wd_602 : Cond.code yJ5_ensureCapacityInternal_d00df cJ5_ensureCapacityInternal_d00df 3 none ∈ wsL_law := wc_26 (List.mem_of_getElem? (i := 2) rfl)
theorem wd_603 : Cond.methodLink RJ5 104 ⟨"java/lang/AbstractStringBuilder", "newCapacity", "(I)I"⟩ ∈ wsL_law := wc_26 (List.mem_of_getElem? (i := 3) rfl)
theorem wd_604 : Cond.sameMethod "java/lang/AbstractStringBuilder" "java/lang/AbstractStringBuilder" "newCapacity" "(I)I" ∈ wsL_law := wc_26 (List.mem_of_getElem? (i := 4) rfl)
theorem wd_605 : Cond.selects RJ4 ⟨"java/lang/AbstractStringBuilder", "newCapacity", "(I)I"⟩ yJ5_newCapacity_0f7a4 ∈ wsL_law := wc_26 (List.mem_of_getElem? (i := 5) rfl)
theorem wd_606 : Cond.instanceMethod yJ5_newCapacity_0f7a4 ∈ wsL_law := wc_26 (List.mem_of_getElem? (i := 6) rfl)
theorem wd_607 : Cond.code yJ5_newCapacity_0f7a4 cJ5_newCapacity_0f7a4 6 (some .int) ∈ wsL_law := wc_26 (List.mem_of_getElem? (i := 7) rfl)
theorem wd_608 : Cond.constant RJ5 39 (2147483647) ∈ wsL_law := wc_26 (List.mem_of_getElem? (i := 8) rfl)
theorem wd_609 : Cond.methodLink RJ5 114 yJ8_newLength_cabcc ∈ wsL_law := wc_26 (List.mem_of_getElem? (i := 9) rfl)
theorem wd_610 : Cond.static yJ8_newLength_cabcc ∈ wsL_law := wc_26 (List.mem_of_getElem? (i := 10) rfl)
theorem wd_611 : Cond.initialized RJ8 ∈ wsL_law := wc_26 (List.mem_of_getElem? (i := 11) rfl)
theorem wd_612 : Cond.code yJ8_newLength_cabcc cJ8_newLength_cabcc 4 (some .int) ∈ wsL_law := wc_26 (List.mem_of_getElem? (i := 12) rfl)
theorem wd_613 : Cond.methodLink RJ8 194 Lib.Math.max.name ∈ wsL_law := wc_26 (List.mem_of_getElem? (i := 13) rfl)
theorem wd_614 : Cond.constant RJ8 200 (2147483639) ∈ wsL_law := wc_26 (List.mem_of_getElem? (i := 14) rfl)
theorem wd_615 : Cond.methodLink RJ8 201 yJ8_hugeLength_7cf53 ∈ wsL_law := wc_26 (List.mem_of_getElem? (i := 15) rfl)
theorem wd_616 : Cond.static yJ8_hugeLength_7cf53 ∈ wsL_law := wc_26 (List.mem_of_getElem? (i := 16) rfl)
theorem wd_617 : Cond.code yJ8_hugeLength_7cf53 cJ8_hugeLength_7cf53 3 (some .int) ∈ wsL_law := wc_26 (List.mem_of_getElem? (i := 17) rfl)
theorem wd_618 : Cond.methodLink RJ5 108 yJ7_copyOf_9075b ∈ wsL_law := wc_26 (List.mem_of_getElem? (i := 18) rfl)
theorem wd_619 : Cond.static yJ7_copyOf_9075b ∈ wsL_law := wc_26 (List.mem_of_getElem? (i := 19) rfl)
theorem wd_620 : Cond.initialized RJ7 ∈ wsL_law := wc_26 (List.mem_of_getElem? (i := 20) rfl)
theorem wd_621 : Cond.code yJ7_copyOf_9075b cJ7_copyOf_9075b 3 (some (.array .byte)) ∈ wsL_law := wc_26 (List.mem_of_getElem? (i := 21) rfl)
theorem wd_622 : Cond.methodLink RJ7 310 ⟨"[B", "clone", "()Ljava/lang/Object;"⟩ ∈ wsL_law := wc_26 (List.mem_of_getElem? (i := 22) rfl)
theorem wd_623 : Cond.sameMethod "[B" "java/lang/Object" "clone" "()Ljava/lang/Object;" ∈ wsL_law := wc_26 (List.mem_of_getElem? (i := 23) rfl)
theorem wd_624 : Cond.native ⟨"java/lang/Object", "clone", "()Ljava/lang/Object;"⟩ ∈ wsL_law := wc_27 (List.mem_of_getElem? (i := 0) rfl)
theorem wd_625 : Cond.instanceMethod ⟨"java/lang/Object", "clone", "()Ljava/lang/Object;"⟩ ∈ wsL_law := wc_27 (List.mem_of_getElem? (i := 1) rfl)
theorem wd_626 : Cond.selects "[B" ⟨"[B", "clone", "()Ljava/lang/Object;"⟩ ⟨"java/lang/Object", "clone", "()Ljava/lang/Object;"⟩ ∈ wsL_law := wc_27 (List.mem_of_getElem? (i := 2) rfl)
theorem wd_627 : Cond.classLink RJ7 311 "[B" ∈ wsL_law := wc_27 (List.mem_of_getElem? (i := 3) rfl)
theorem wd_628 : Cond.methodLink RJ7 304 Lib.Math.min.name ∈ wsL_law := wc_27 (List.mem_of_getElem? (i := 4) rfl)
theorem wd_629 : Cond.methodLink RJ7 150 arraycopyName ∈ wsL_law := wc_27 (List.mem_of_getElem? (i := 5) rfl)
theorem wd_630 : Cond.methodLink RJ5 83 ⟨"java/lang/AbstractStringBuilder", "isLatin1", "()Z"⟩ ∈ wsL_law := wc_27 (List.mem_of_getElem? (i := 6) rfl)
theorem wd_631 : Cond.sameMethod "java/lang/AbstractStringBuilder" "java/lang/AbstractStringBuilder" "isLatin1" "()Z" ∈ wsL_law := wc_27 (List.mem_of_getElem? (i := 7) rfl)
theorem wd_632 : Cond.selects RJ4 ⟨"java/lang/AbstractStringBuilder", "isLatin1", "()Z"⟩ yJ5_isLatin1_aae02 ∈ wsL_law := wc_27 (List.mem_of_getElem? (i := 8) rfl)
theorem wd_633 : Cond.instanceMethod yJ5_isLatin1_aae02 ∈ wsL_law := wc_27 (List.mem_of_getElem? (i := 9) rfl)
theorem wd_634 : Cond.code yJ5_isLatin1_aae02 cJ5_isLatin1_aae02 1 (some .boolean) ∈ wsL_law := wc_27 (List.mem_of_getElem? (i := 10) rfl)
theorem wd_635 : Cond.methodLink RJ5 133 yJ1_fillNull_b72d1 ∈ wsL_law := wc_27 (List.mem_of_getElem? (i := 11) rfl)
theorem wd_636 : Cond.static yJ1_fillNull_b72d1 ∈ wsL_law := wc_27 (List.mem_of_getElem? (i := 12) rfl)
theorem wd_637 : Cond.initialized RJ1 ∈ wsL_law := wc_27 (List.mem_of_getElem? (i := 13) rfl)
theorem wd_638 : Cond.code yJ1_fillNull_b72d1 cJ1_fillNull_b72d1 3 none ∈ wsL_law := wc_27 (List.mem_of_getElem? (i := 14) rfl)
theorem wd_639 : Cond.methodLink RJ1 236 yJ7_fill_eb02e ∈ wsL_law := wc_27 (List.mem_of_getElem? (i := 15) rfl)
theorem wd_640 : Cond.static yJ7_fill_eb02e ∈ wsL_law := wc_27 (List.mem_of_getElem? (i := 16) rfl)
theorem wd_641 : Cond.code yJ7_fill_eb02e cJ7_fill_eb02e 5 none ∈ wsL_law := wc_27 (List.mem_of_getElem? (i := 17) rfl)
theorem wd_642 : Cond.methodLink RJ7 13 yJ7_rangeCheck_23922 ∈ wsL_law := wc_27 (List.mem_of_getElem? (i := 18) rfl)
theorem wd_643 : Cond.static yJ7_rangeCheck_23922 ∈ wsL_law := wc_27 (List.mem_of_getElem? (i := 19) rfl)
theorem wd_644 : Cond.code yJ7_rangeCheck_23922 cJ7_rangeCheck_23922 3 none ∈ wsL_law := wc_27 (List.mem_of_getElem? (i := 20) rfl)
theorem wd_645 : Cond.methodLink RJ5 137 yJ2_fillNull_b72d1 ∈ wsL_law := wc_27 (List.mem_of_getElem? (i := 21) rfl)
theorem wd_646 : Cond.static yJ2_fillNull_b72d1 ∈ wsL_law := wc_27 (List.mem_of_getElem? (i := 22) rfl)
theorem wd_647 : Cond.code yJ2_fillNull_b72d1 cJ2_fillNull_b72d1 3 none ∈ wsL_law := wc_27 (List.mem_of_getElem? (i := 23) rfl)
theorem wd_648 : Cond.methodLink RJ2 380 yJ7_fill_eb02e ∈ wsL_law := wc_28 (List.mem_of_getElem? (i := 0) rfl)
theorem wd_649 : Cond.methodLink RX6 211 yJ4_append_bf812 ∈ wsL_law := wc_28 (List.mem_of_getElem? (i := 1) rfl)
theorem wd_650 : Cond.instanceMethod yJ4_append_bf812 ∈ wsL_law := wc_28 (List.mem_of_getElem? (i := 2) rfl)
theorem wd_651 : Cond.selects RJ4 yJ4_append_bf812 yJ4_append_bf812 ∈ wsL_law := wc_28 (List.mem_of_getElem? (i := 3) rfl)
theorem wd_652 : Cond.code yJ4_append_bf812 cJ4_append_bf812 2 (some (.object "java/lang/StringBuilder")) ∈ wsL_law := wc_28 (List.mem_of_getElem? (i := 4) rfl)
theorem wd_653 : Cond.methodLink RJ4 53 yJ5_append_c97b9 ∈ wsL_law := wc_28 (List.mem_of_getElem? (i := 5) rfl)
theorem wd_654 : Cond.sameMethod "java/lang/AbstractStringBuilder" "java/lang/AbstractStringBuilder" "append" "(I)Ljava/lang/AbstractStringBuilder;" ∈ wsL_law := wc_28 (List.mem_of_getElem? (i := 6) rfl)
theorem wd_655 : Cond.instanceMethod yJ5_append_c97b9 ∈ wsL_law := wc_28 (List.mem_of_getElem? (i := 7) rfl)
theorem wd_656 : Cond.code yJ5_append_c97b9 cJ5_append_c97b9 4 (some (.object "java/lang/AbstractStringBuilder")) ∈ wsL_law := wc_28 (List.mem_of_getElem? (i := 8) rfl)
theorem wd_657 : Cond.methodLink RJ5 245 yJ6_stringSize_0f7a4 ∈ wsL_law := wc_28 (List.mem_of_getElem? (i := 9) rfl)
theorem wd_658 : Cond.static yJ6_stringSize_0f7a4 ∈ wsL_law := wc_28 (List.mem_of_getElem? (i := 10) rfl)
theorem wd_659 : Cond.initialized RJ6 ∈ wsL_law := wc_28 (List.mem_of_getElem? (i := 11) rfl)
theorem wd_660 : Cond.code yJ6_stringSize_0f7a4 cJ6_stringSize_0f7a4 4 (some .int) ∈ wsL_law := wc_28 (List.mem_of_getElem? (i := 12) rfl)
theorem wd_661 : Cond.methodLink RJ5 248 yJ6_getChars_ba4f3 ∈ wsL_law := wc_28 (List.mem_of_getElem? (i := 13) rfl)
theorem wd_662 : Cond.static yJ6_getChars_ba4f3 ∈ wsL_law := wc_28 (List.mem_of_getElem? (i := 14) rfl)
theorem wd_663 : Cond.code yJ6_getChars_ba4f3 cJ6_getChars_ba4f3 7 (some .int) ∈ wsL_law := wc_28 (List.mem_of_getElem? (i := 15) rfl)
theorem wd_664 : Cond.fieldLink RJ6 83 "java/lang/Integer" "DigitOnes" "[B" ∈ wsL_law := wc_28 (List.mem_of_getElem? (i := 16) rfl)
theorem wd_665 : Cond.fieldLink RJ6 87 "java/lang/Integer" "DigitTens" "[B" ∈ wsL_law := wc_28 (List.mem_of_getElem? (i := 17) rfl)
theorem wd_666 : Cond.methodLink RJ5 251 yJ2_getChars_46870 ∈ wsL_law := wc_28 (List.mem_of_getElem? (i := 18) rfl)
theorem wd_667 : Cond.static yJ2_getChars_46870 ∈ wsL_law := wc_28 (List.mem_of_getElem? (i := 19) rfl)
theorem wd_668 : Cond.code yJ2_getChars_46870 cJ2_getChars_46870 5 (some .int) ∈ wsL_law := wc_28 (List.mem_of_getElem? (i := 20) rfl)
theorem wd_669 : Cond.fieldLink RJ2 44 "java/lang/StringUTF16" "$assertionsDisabled" "Z" ∈ wsL_law := wc_28 (List.mem_of_getElem? (i := 21) rfl)
theorem wd_670 : Cond.methodLink RJ2 96 yJ2_checkBoundsBeginEnd_d044e ∈ wsL_law := wc_28 (List.mem_of_getElem? (i := 22) rfl)
theorem wd_671 : Cond.static yJ2_checkBoundsBeginEnd_d044e ∈ wsL_law := wc_28 (List.mem_of_getElem? (i := 23) rfl)
theorem wd_672 : Cond.code yJ2_checkBoundsBeginEnd_d044e cJ2_checkBoundsBeginEnd_d044e 3 none ∈ wsL_law := wc_29 (List.mem_of_getElem? (i := 0) rfl)
theorem wd_673 : Cond.methodLink RJ2 48 yJ2_length_9d52b ∈ wsL_law := wc_29 (List.mem_of_getElem? (i := 1) rfl)
theorem wd_674 : Cond.static yJ2_length_9d52b ∈ wsL_law := wc_29 (List.mem_of_getElem? (i := 2) rfl)
theorem wd_675 : Cond.code yJ2_length_9d52b cJ2_length_9d52b 1 (some .int) ∈ wsL_law := wc_29 (List.mem_of_getElem? (i := 3) rfl)
theorem wd_676 : Cond.methodLink RJ2 241 yJ0_checkBoundsBeginEnd_23922 ∈ wsL_law := wc_29 (List.mem_of_getElem? (i := 4) rfl)
theorem wd_677 : Cond.static yJ0_checkBoundsBeginEnd_23922 ∈ wsL_law := wc_29 (List.mem_of_getElem? (i := 5) rfl)
theorem wd_678 : Cond.initialized RJ0 ∈ wsL_law := wc_29 (List.mem_of_getElem? (i := 6) rfl)
theorem wd_679 : Cond.code yJ0_checkBoundsBeginEnd_23922 cJ0_checkBoundsBeginEnd_23922 3 none ∈ wsL_law := wc_29 (List.mem_of_getElem? (i := 7) rfl)
theorem wd_680 : Cond.fieldLink RJ0 1053 "jdk/internal/util/Preconditions" "SIOOBE_FORMATTER" "Ljava/util/function/BiFunction;" ∈ wsL_law := wc_29 (List.mem_of_getElem? (i := 8) rfl)
theorem wd_681 : Cond.methodLink RJ0 1062 yJ3_checkFromToIndex_8c36e ∈ wsL_law := wc_29 (List.mem_of_getElem? (i := 9) rfl)
theorem wd_682 : Cond.static yJ3_checkFromToIndex_8c36e ∈ wsL_law := wc_29 (List.mem_of_getElem? (i := 10) rfl)
theorem wd_683 : Cond.initialized RJ3 ∈ wsL_law := wc_29 (List.mem_of_getElem? (i := 11) rfl)
theorem wd_684 : Cond.code yJ3_checkFromToIndex_8c36e cJ3_checkFromToIndex_8c36e 4 (some .int) ∈ wsL_law := wc_29 (List.mem_of_getElem? (i := 12) rfl)
theorem wd_685 : Cond.methodLink RJ2 393 yJ2_getChars_ba4f3 ∈ wsL_law := wc_29 (List.mem_of_getElem? (i := 13) rfl)
theorem wd_686 : Cond.static yJ2_getChars_ba4f3 ∈ wsL_law := wc_29 (List.mem_of_getElem? (i := 14) rfl)
theorem wd_687 : Cond.code yJ2_getChars_ba4f3 cJ2_getChars_ba4f3 7 (some .int) ∈ wsL_law := wc_29 (List.mem_of_getElem? (i := 15) rfl)
theorem wd_688 : Cond.fieldLink RJ2 403 "java/lang/Integer" "DigitOnes" "[B" ∈ wsL_law := wc_29 (List.mem_of_getElem? (i := 16) rfl)
theorem wd_689 : Cond.fieldLink RJ2 407 "java/lang/Integer" "DigitTens" "[B" ∈ wsL_law := wc_29 (List.mem_of_getElem? (i := 17) rfl)
theorem wd_690 : Cond.methodLink RJ2 111 yJ2_putChar_b72d1 ∈ wsL_law := wc_29 (List.mem_of_getElem? (i := 18) rfl)
theorem wd_691 : Cond.static yJ2_putChar_b72d1 ∈ wsL_law := wc_29 (List.mem_of_getElem? (i := 19) rfl)
theorem wd_692 : Cond.code yJ2_putChar_b72d1 cJ2_putChar_b72d1 3 none ∈ wsL_law := wc_29 (List.mem_of_getElem? (i := 20) rfl)
theorem wd_693 : Cond.fieldLink RJ2 59 "java/lang/StringUTF16" "HI_BYTE_SHIFT" "I" ∈ wsL_law := wc_29 (List.mem_of_getElem? (i := 21) rfl)
theorem wd_694 : Cond.fieldLink RJ2 63 "java/lang/StringUTF16" "LO_BYTE_SHIFT" "I" ∈ wsL_law := wc_29 (List.mem_of_getElem? (i := 22) rfl)
theorem wd_695 : Cond.methodLink RX6 214 yJ4_append_cf468 ∈ wsL_law := wc_29 (List.mem_of_getElem? (i := 23) rfl)
theorem wd_696 : Cond.instanceMethod yJ4_append_cf468 ∈ wsL_law := wc_30 (List.mem_of_getElem? (i := 0) rfl)
theorem wd_697 : Cond.selects RJ4 yJ4_append_cf468 yJ4_append_cf468 ∈ wsL_law := wc_30 (List.mem_of_getElem? (i := 1) rfl)
theorem wd_698 : Cond.code yJ4_append_cf468 cJ4_append_cf468 2 (some (.object "java/lang/StringBuilder")) ∈ wsL_law := wc_30 (List.mem_of_getElem? (i := 2) rfl)
theorem wd_699 : Cond.methodLink RJ4 50 yJ5_append_3fe6f ∈ wsL_law := wc_30 (List.mem_of_getElem? (i := 3) rfl)
theorem wd_700 : Cond.sameMethod "java/lang/AbstractStringBuilder" "java/lang/AbstractStringBuilder" "append" "(C)Ljava/lang/AbstractStringBuilder;" ∈ wsL_law := wc_30 (List.mem_of_getElem? (i := 4) rfl)
theorem wd_701 : Cond.instanceMethod yJ5_append_3fe6f ∈ wsL_law := wc_30 (List.mem_of_getElem? (i := 5) rfl)
theorem wd_702 : Cond.code yJ5_append_3fe6f cJ5_append_3fe6f 2 (some (.object "java/lang/AbstractStringBuilder")) ∈ wsL_law := wc_30 (List.mem_of_getElem? (i := 6) rfl)
theorem wd_703 : Cond.methodLink RJ5 191 yJ1_canEncode_fc78d ∈ wsL_law := wc_30 (List.mem_of_getElem? (i := 7) rfl)
theorem wd_704 : Cond.static yJ1_canEncode_fc78d ∈ wsL_law := wc_30 (List.mem_of_getElem? (i := 8) rfl)
theorem wd_705 : Cond.code yJ1_canEncode_fc78d cJ1_canEncode_fc78d 1 (some .boolean) ∈ wsL_law := wc_30 (List.mem_of_getElem? (i := 9) rfl)
theorem wd_706 : Cond.methodLink RJ5 195 ⟨"java/lang/AbstractStringBuilder", "inflate", "()V"⟩ ∈ wsL_law := wc_30 (List.mem_of_getElem? (i := 10) rfl)
theorem wd_707 : Cond.sameMethod "java/lang/AbstractStringBuilder" "java/lang/AbstractStringBuilder" "inflate" "()V" ∈ wsL_law := wc_30 (List.mem_of_getElem? (i := 11) rfl)
theorem wd_708 : Cond.selects RJ4 ⟨"java/lang/AbstractStringBuilder", "inflate", "()V"⟩ yJ5_inflate_da8c8 ∈ wsL_law := wc_30 (List.mem_of_getElem? (i := 12) rfl)
theorem wd_709 : Cond.instanceMethod yJ5_inflate_da8c8 ∈ wsL_law := wc_30 (List.mem_of_getElem? (i := 13) rfl)
theorem wd_710 : Cond.code yJ5_inflate_da8c8 cJ5_inflate_da8c8 2 none ∈ wsL_law := wc_30 (List.mem_of_getElem? (i := 14) rfl)
theorem wd_711 : Cond.methodLink RJ5 125 yJ1_inflate_0e8fd ∈ wsL_law := wc_30 (List.mem_of_getElem? (i := 15) rfl)
theorem wd_712 : Cond.static yJ1_inflate_0e8fd ∈ wsL_law := wc_30 (List.mem_of_getElem? (i := 16) rfl)
theorem wd_713 : Cond.code yJ1_inflate_0e8fd cJ1_inflate_0e8fd 5 none ∈ wsL_law := wc_30 (List.mem_of_getElem? (i := 17) rfl)
theorem wd_714 : Cond.methodLink RJ1 240 yJ2_inflate_0e8fd ∈ wsL_law := wc_30 (List.mem_of_getElem? (i := 18) rfl)
theorem wd_715 : Cond.static yJ2_inflate_0e8fd ∈ wsL_law := wc_30 (List.mem_of_getElem? (i := 19) rfl)
theorem wd_716 : Cond.code yJ2_inflate_0e8fd cJ2_inflate_0e8fd 6 none ∈ wsL_law := wc_30 (List.mem_of_getElem? (i := 20) rfl)
theorem wd_717 : Cond.methodLink RJ2 173 yJ2_checkBoundsOffCount_d044e ∈ wsL_law := wc_30 (List.mem_of_getElem? (i := 21) rfl)
theorem wd_718 : Cond.static yJ2_checkBoundsOffCount_d044e ∈ wsL_law := wc_30 (List.mem_of_getElem? (i := 22) rfl)
theorem wd_719 : Cond.code yJ2_checkBoundsOffCount_d044e cJ2_checkBoundsOffCount_d044e 3 none ∈ wsL_law := wc_30 (List.mem_of_getElem? (i := 23) rfl)
theorem wd_720 : Cond.methodLink RJ2 419 yJ0_checkBoundsOffCount_cabcc ∈ wsL_law := wc_31 (List.mem_of_getElem? (i := 0) rfl)
theorem wd_721 : Cond.static yJ0_checkBoundsOffCount_cabcc ∈ wsL_law := wc_31 (List.mem_of_getElem? (i := 1) rfl)
theorem wd_722 : Cond.code yJ0_checkBoundsOffCount_cabcc cJ0_checkBoundsOffCount_cabcc 3 (some .int) ∈ wsL_law := wc_31 (List.mem_of_getElem? (i := 2) rfl)
theorem wd_723 : Cond.methodLink RJ0 1065 yJ3_checkFromIndexSize_8c36e ∈ wsL_law := wc_31 (List.mem_of_getElem? (i := 3) rfl)
theorem wd_724 : Cond.static yJ3_checkFromIndexSize_8c36e ∈ wsL_law := wc_31 (List.mem_of_getElem? (i := 4) rfl)
theorem wd_725 : Cond.code yJ3_checkFromIndexSize_8c36e cJ3_checkFromIndexSize_8c36e 4 (some .int) ∈ wsL_law := wc_31 (List.mem_of_getElem? (i := 5) rfl)
theorem wd_726 : Cond.methodLink RJ5 197 yJ2_putCharSB_b72d1 ∈ wsL_law := wc_31 (List.mem_of_getElem? (i := 6) rfl)
theorem wd_727 : Cond.static yJ2_putCharSB_b72d1 ∈ wsL_law := wc_31 (List.mem_of_getElem? (i := 7) rfl)
theorem wd_728 : Cond.code yJ2_putCharSB_b72d1 cJ2_putCharSB_b72d1 3 none ∈ wsL_law := wc_31 (List.mem_of_getElem? (i := 8) rfl)
theorem wd_729 : Cond.methodLink RJ2 67 yJ2_checkIndex_2214a ∈ wsL_law := wc_31 (List.mem_of_getElem? (i := 9) rfl)
theorem wd_730 : Cond.static yJ2_checkIndex_2214a ∈ wsL_law := wc_31 (List.mem_of_getElem? (i := 10) rfl)
theorem wd_731 : Cond.code yJ2_checkIndex_2214a cJ2_checkIndex_2214a 2 none ∈ wsL_law := wc_31 (List.mem_of_getElem? (i := 11) rfl)
theorem wd_732 : Cond.methodLink RJ2 414 yJ0_checkIndex_df160 ∈ wsL_law := wc_31 (List.mem_of_getElem? (i := 12) rfl)
theorem wd_733 : Cond.static yJ0_checkIndex_df160 ∈ wsL_law := wc_31 (List.mem_of_getElem? (i := 13) rfl)
theorem wd_734 : Cond.code yJ0_checkIndex_df160 cJ0_checkIndex_df160 2 none ∈ wsL_law := wc_31 (List.mem_of_getElem? (i := 14) rfl)
theorem wd_735 : Cond.methodLink RJ0 1059 yJ3_checkIndex_8e157 ∈ wsL_law := wc_31 (List.mem_of_getElem? (i := 15) rfl)
theorem wd_736 : Cond.static yJ3_checkIndex_8e157 ∈ wsL_law := wc_31 (List.mem_of_getElem? (i := 16) rfl)
theorem wd_737 : Cond.code yJ3_checkIndex_8e157 cJ3_checkIndex_8e157 3 (some .int) ∈ wsL_law := wc_31 (List.mem_of_getElem? (i := 17) rfl)
theorem wd_738 : Cond.methodLink RX6 217 yX6_wordOf ∈ wsL_law := wc_31 (List.mem_of_getElem? (i := 18) rfl)
theorem wd_739 : Cond.static yX6_wordOf ∈ wsL_law := wc_31 (List.mem_of_getElem? (i := 19) rfl)
theorem wd_740 : Cond.code yX6_wordOf cX6_wordOf 1 (some (.object "java/lang/String")) ∈ wsL_law := wc_31 (List.mem_of_getElem? (i := 20) rfl)
theorem wd_741 : Cond.methodLink RX6 221 yJ4_append_15ec4 ∈ wsL_law := wc_31 (List.mem_of_getElem? (i := 21) rfl)
theorem wd_742 : Cond.instanceMethod yJ4_append_15ec4 ∈ wsL_law := wc_31 (List.mem_of_getElem? (i := 22) rfl)
theorem wd_743 : Cond.selects RJ4 yJ4_append_15ec4 yJ4_append_15ec4 ∈ wsL_law := wc_31 (List.mem_of_getElem? (i := 23) rfl)
theorem wd_744 : Cond.code yJ4_append_15ec4 cJ4_append_15ec4 2 (some (.object "java/lang/StringBuilder")) ∈ wsL_law := wc_32 (List.mem_of_getElem? (i := 0) rfl)
theorem wd_745 : Cond.methodLink RJ4 29 yJ5_append_cf1ce ∈ wsL_law := wc_32 (List.mem_of_getElem? (i := 1) rfl)
theorem wd_746 : Cond.sameMethod "java/lang/AbstractStringBuilder" "java/lang/AbstractStringBuilder" "append" "(Ljava/lang/String;)Ljava/lang/AbstractStringBuilder;" ∈ wsL_law := wc_32 (List.mem_of_getElem? (i := 2) rfl)
theorem wd_747 : Cond.instanceMethod yJ5_append_cf1ce ∈ wsL_law := wc_32 (List.mem_of_getElem? (i := 3) rfl)
theorem wd_748 : Cond.code yJ5_append_cf1ce cJ5_append_cf1ce 3 (some (.object "java/lang/AbstractStringBuilder")) ∈ wsL_law := wc_32 (List.mem_of_getElem? (i := 4) rfl)
theorem wd_749 : Cond.methodLink RJ5 204 ⟨"java/lang/AbstractStringBuilder", "appendNull", "()Ljava/lang/AbstractStringBuilder;"⟩ ∈ wsL_law := wc_32 (List.mem_of_getElem? (i := 5) rfl)
theorem wd_750 : Cond.sameMethod "java/lang/AbstractStringBuilder" "java/lang/AbstractStringBuilder" "appendNull" "()Ljava/lang/AbstractStringBuilder;" ∈ wsL_law := wc_32 (List.mem_of_getElem? (i := 6) rfl)
theorem wd_751 : Cond.selects RJ4 ⟨"java/lang/AbstractStringBuilder", "appendNull", "()Ljava/lang/AbstractStringBuilder;"⟩ yJ5_appendNull_278bc ∈ wsL_law := wc_32 (List.mem_of_getElem? (i := 7) rfl)
theorem wd_752 : Cond.instanceMethod yJ5_appendNull_278bc ∈ wsL_law := wc_32 (List.mem_of_getElem? (i := 8) rfl)
theorem wd_753 : Cond.code yJ5_appendNull_278bc cJ5_appendNull_278bc 3 (some (.object "java/lang/AbstractStringBuilder")) ∈ wsL_law := wc_32 (List.mem_of_getElem? (i := 9) rfl)
theorem wd_754 : Cond.methodLink RJ5 226 yJ2_putCharsAt_cd4e5 ∈ wsL_law := wc_32 (List.mem_of_getElem? (i := 10) rfl)
theorem wd_755 : Cond.static yJ2_putCharsAt_cd4e5 ∈ wsL_law := wc_32 (List.mem_of_getElem? (i := 11) rfl)
theorem wd_756 : Cond.code yJ2_putCharsAt_cd4e5 cJ2_putCharsAt_cd4e5 7 (some .int) ∈ wsL_law := wc_32 (List.mem_of_getElem? (i := 12) rfl)
theorem wd_757 : Cond.methodLink RJ5 32 yJ0_length_8abf5 ∈ wsL_law := wc_32 (List.mem_of_getElem? (i := 13) rfl)
theorem wd_758 : Cond.instanceMethod yJ0_length_8abf5 ∈ wsL_law := wc_32 (List.mem_of_getElem? (i := 14) rfl)
theorem wd_759 : Cond.selects RJ0 yJ0_length_8abf5 yJ0_length_8abf5 ∈ wsL_law := wc_32 (List.mem_of_getElem? (i := 15) rfl)
theorem wd_760 : Cond.code yJ0_length_8abf5 cJ0_length_8abf5 1 (some .int) ∈ wsL_law := wc_32 (List.mem_of_getElem? (i := 16) rfl)
theorem wd_761 : Cond.fieldLink RJ0 9 "java/lang/String" "value" "[B" ∈ wsL_law := wc_32 (List.mem_of_getElem? (i := 17) rfl)
theorem wd_762 : Cond.methodLink RJ0 335 yJ0_coder_7d493 ∈ wsL_law := wc_32 (List.mem_of_getElem? (i := 18) rfl)
theorem wd_763 : Cond.instanceMethod yJ0_coder_7d493 ∈ wsL_law := wc_32 (List.mem_of_getElem? (i := 19) rfl)
theorem wd_764 : Cond.selects RJ0 yJ0_coder_7d493 yJ0_coder_7d493 ∈ wsL_law := wc_32 (List.mem_of_getElem? (i := 20) rfl)
theorem wd_765 : Cond.code yJ0_coder_7d493 cJ0_coder_7d493 1 (some .byte) ∈ wsL_law := wc_32 (List.mem_of_getElem? (i := 21) rfl)
theorem wd_766 : Cond.fieldLink RJ0 38 "java/lang/String" "COMPACT_STRINGS" "Z" ∈ wsL_law := wc_32 (List.mem_of_getElem? (i := 22) rfl)
theorem wd_767 : Cond.fieldLink RJ0 15 "java/lang/String" "coder" "B" ∈ wsL_law := wc_32 (List.mem_of_getElem? (i := 23) rfl)
theorem wd_768 : Cond.methodLink RJ5 208 ⟨"java/lang/AbstractStringBuilder", "putStringAt", "(ILjava/lang/String;)V"⟩ ∈ wsL_law := wc_33 (List.mem_of_getElem? (i := 0) rfl)
theorem wd_769 : Cond.sameMethod "java/lang/AbstractStringBuilder" "java/lang/AbstractStringBuilder" "putStringAt" "(ILjava/lang/String;)V" ∈ wsL_law := wc_33 (List.mem_of_getElem? (i := 1) rfl)
theorem wd_770 : Cond.selects RJ4 ⟨"java/lang/AbstractStringBuilder", "putStringAt", "(ILjava/lang/String;)V"⟩ yJ5_putStringAt_47b60 ∈ wsL_law := wc_33 (List.mem_of_getElem? (i := 2) rfl)
theorem wd_771 : Cond.instanceMethod yJ5_putStringAt_47b60 ∈ wsL_law := wc_33 (List.mem_of_getElem? (i := 3) rfl)
theorem wd_772 : Cond.code yJ5_putStringAt_47b60 cJ5_putStringAt_47b60 3 none ∈ wsL_law := wc_33 (List.mem_of_getElem? (i := 4) rfl)
theorem wd_773 : Cond.methodLink RJ5 397 ⟨"java/lang/AbstractStringBuilder", "inflateIfNeededFor", "(Ljava/lang/String;)V"⟩ ∈ wsL_law := wc_33 (List.mem_of_getElem? (i := 5) rfl)
theorem wd_774 : Cond.sameMethod "java/lang/AbstractStringBuilder" "java/lang/AbstractStringBuilder" "inflateIfNeededFor" "(Ljava/lang/String;)V" ∈ wsL_law := wc_33 (List.mem_of_getElem? (i := 6) rfl)
theorem wd_775 : Cond.selects RJ4 ⟨"java/lang/AbstractStringBuilder", "inflateIfNeededFor", "(Ljava/lang/String;)V"⟩ yJ5_inflateIfNeededFor_a7421 ∈ wsL_law := wc_33 (List.mem_of_getElem? (i := 7) rfl)
theorem wd_776 : Cond.instanceMethod yJ5_inflateIfNeededFor_a7421 ∈ wsL_law := wc_33 (List.mem_of_getElem? (i := 8) rfl)
theorem wd_777 : Cond.code yJ5_inflateIfNeededFor_a7421 cJ5_inflateIfNeededFor_a7421 2 none ∈ wsL_law := wc_33 (List.mem_of_getElem? (i := 9) rfl)
theorem wd_778 : Cond.methodLink RJ5 40 yJ0_coder_7d493 ∈ wsL_law := wc_33 (List.mem_of_getElem? (i := 10) rfl)
theorem wd_779 : Cond.methodLink RJ5 399 yJ0_getBytes_840e7 ∈ wsL_law := wc_33 (List.mem_of_getElem? (i := 11) rfl)
theorem wd_780 : Cond.instanceMethod yJ0_getBytes_840e7 ∈ wsL_law := wc_33 (List.mem_of_getElem? (i := 12) rfl)
theorem wd_781 : Cond.selects RJ0 yJ0_getBytes_840e7 yJ0_getBytes_840e7 ∈ wsL_law := wc_33 (List.mem_of_getElem? (i := 13) rfl)
theorem wd_782 : Cond.code yJ0_getBytes_840e7 cJ0_getBytes_840e7 4 none ∈ wsL_law := wc_33 (List.mem_of_getElem? (i := 14) rfl)
theorem wd_783 : Cond.methodLink RJ0 212 arraycopyName ∈ wsL_law := wc_33 (List.mem_of_getElem? (i := 15) rfl)
theorem wd_784 : Cond.methodLink RJ0 106 yJ1_inflate_0e8fd ∈ wsL_law := wc_33 (List.mem_of_getElem? (i := 16) rfl)
theorem wd_785 : Cond.methodLink RX6 129 yJ4_length_8abf5 ∈ wsL_law := wc_33 (List.mem_of_getElem? (i := 17) rfl)
theorem wd_786 : Cond.instanceMethod yJ4_length_8abf5 ∈ wsL_law := wc_33 (List.mem_of_getElem? (i := 18) rfl)
theorem wd_787 : Cond.selects RJ4 yJ4_length_8abf5 yJ4_length_8abf5 ∈ wsL_law := wc_33 (List.mem_of_getElem? (i := 19) rfl)
theorem wd_788 : Cond.code yJ4_length_8abf5 cJ4_length_8abf5 1 (some .int) ∈ wsL_law := wc_33 (List.mem_of_getElem? (i := 20) rfl)
theorem wd_789 : Cond.methodLink RJ4 343 yJ5_length_8abf5 ∈ wsL_law := wc_33 (List.mem_of_getElem? (i := 21) rfl)
theorem wd_790 : Cond.sameMethod "java/lang/AbstractStringBuilder" "java/lang/AbstractStringBuilder" "length" "()I" ∈ wsL_law := wc_33 (List.mem_of_getElem? (i := 22) rfl)
theorem wd_791 : Cond.instanceMethod yJ5_length_8abf5 ∈ wsL_law := wc_33 (List.mem_of_getElem? (i := 23) rfl)
theorem wd_792 : Cond.code yJ5_length_8abf5 cJ5_length_8abf5 1 (some .int) ∈ wsL_law := wc_34 (List.mem_of_getElem? (i := 0) rfl)
theorem wd_793 : Cond.methodLink RL 75 yX7_entry ∈ wsL_law := wc_34 (List.mem_of_getElem? (i := 1) rfl)
theorem wd_794 : Cond.instanceMethod yX7_entry ∈ wsL_law := wc_34 (List.mem_of_getElem? (i := 2) rfl)
theorem wd_795 : Cond.selects RX7 yX7_entry yX7_entry ∈ wsL_law := wc_34 (List.mem_of_getElem? (i := 3) rfl)
theorem wd_796 : Cond.code yX7_entry cX7_entry 3 (some .int) ∈ wsL_law := wc_34 (List.mem_of_getElem? (i := 4) rfl)
theorem wd_797 : Cond.methodLink RX7 165 yX7_isEntry ∈ wsL_law := wc_34 (List.mem_of_getElem? (i := 5) rfl)
theorem wd_798 : Cond.instanceMethod yX7_isEntry ∈ wsL_law := wc_34 (List.mem_of_getElem? (i := 6) rfl)
theorem wd_799 : Cond.selects RX7 yX7_isEntry yX7_isEntry ∈ wsL_law := wc_34 (List.mem_of_getElem? (i := 7) rfl)
theorem wd_800 : Cond.code yX7_isEntry cX7_isEntry 2 (some .boolean) ∈ wsL_law := wc_34 (List.mem_of_getElem? (i := 8) rfl)
theorem wd_801 : Cond.methodLink RX7 168 yX7_lineLength ∈ wsL_law := wc_34 (List.mem_of_getElem? (i := 9) rfl)
theorem wd_802 : Cond.instanceMethod yX7_lineLength ∈ wsL_law := wc_34 (List.mem_of_getElem? (i := 10) rfl)
theorem wd_803 : Cond.selects RX7 yX7_lineLength yX7_lineLength ∈ wsL_law := wc_34 (List.mem_of_getElem? (i := 11) rfl)
theorem wd_804 : Cond.code yX7_lineLength cX7_lineLength 2 (some .int) ∈ wsL_law := wc_34 (List.mem_of_getElem? (i := 12) rfl)
theorem wd_805 : Cond.methodLink RX7 54 yX7_entryPart ∈ wsL_law := wc_34 (List.mem_of_getElem? (i := 13) rfl)
theorem wd_806 : Cond.instanceMethod yX7_entryPart ∈ wsL_law := wc_34 (List.mem_of_getElem? (i := 14) rfl)
theorem wd_807 : Cond.selects RX7 yX7_entryPart yX7_entryPart ∈ wsL_law := wc_34 (List.mem_of_getElem? (i := 15) rfl)
theorem wd_808 : Cond.code yX7_entryPart cX7_entryPart 3 (some .int) ∈ wsL_law := wc_34 (List.mem_of_getElem? (i := 16) rfl)
theorem wd_809 : Cond.methodLink RX7 58 yX7_digits ∈ wsL_law := wc_34 (List.mem_of_getElem? (i := 17) rfl)
theorem wd_810 : Cond.static yX7_digits ∈ wsL_law := wc_34 (List.mem_of_getElem? (i := 18) rfl)
theorem wd_811 : Cond.code yX7_digits cX7_digits 3 (some .int) ∈ wsL_law := wc_34 (List.mem_of_getElem? (i := 19) rfl)
theorem wd_812 : Cond.methodLink RX7 62 yX7_letters ∈ wsL_law := wc_34 (List.mem_of_getElem? (i := 20) rfl)
theorem wd_813 : Cond.static yX7_letters ∈ wsL_law := wc_34 (List.mem_of_getElem? (i := 21) rfl)
theorem wd_814 : Cond.code yX7_letters cX7_letters 4 (some .int) ∈ wsL_law := wc_34 (List.mem_of_getElem? (i := 22) rfl)
theorem wd_815 : Cond.methodLink RX7 50 yX7_word ∈ wsL_law := wc_34 (List.mem_of_getElem? (i := 23) rfl)
theorem wd_816 : Cond.static yX7_word ∈ wsL_law := wc_35 (List.mem_of_getElem? (i := 0) rfl)
theorem wd_817 : Cond.code yX7_word cX7_word 1 (some .long) ∈ wsL_law := wc_35 (List.mem_of_getElem? (i := 1) rfl)
theorem wd_818 : Cond.constantLong RX7 38 (126918051980642) ∈ wsL_law := wc_35 (List.mem_of_getElem? (i := 2) rfl)
theorem wd_819 : Cond.constantLong RX7 40 (126879565963632) ∈ wsL_law := wc_35 (List.mem_of_getElem? (i := 3) rfl)
theorem wd_820 : Cond.constantLong RX7 42 (1935961701) ∈ wsL_law := wc_35 (List.mem_of_getElem? (i := 4) rfl)
theorem wd_821 : Cond.constantLong RX7 44 (7234297646522852722) ∈ wsL_law := wc_35 (List.mem_of_getElem? (i := 5) rfl)
theorem wd_822 : Cond.constantLong RX7 46 (495957668979) ∈ wsL_law := wc_35 (List.mem_of_getElem? (i := 6) rfl)
theorem wd_823 : Cond.constantLong RX7 48 (2003790963) ∈ wsL_law := wc_35 (List.mem_of_getElem? (i := 7) rfl)
theorem wd_824 : Cond.methodLink RL 76 yX6_lineAt ∈ wsL_law := wc_35 (List.mem_of_getElem? (i := 8) rfl)
theorem wd_825 : Cond.instanceMethod yX6_lineAt ∈ wsL_law := wc_35 (List.mem_of_getElem? (i := 9) rfl)
theorem wd_826 : Cond.selects RX6 yX6_lineAt yX6_lineAt ∈ wsL_law := wc_35 (List.mem_of_getElem? (i := 10) rfl)
theorem wd_827 : Cond.code yX6_lineAt cX6_lineAt 3 (some .int) ∈ wsL_law := wc_35 (List.mem_of_getElem? (i := 11) rfl)
theorem wd_828 : Cond.methodLink RX6 132 yJ4_charAt_5068e ∈ wsL_law := wc_35 (List.mem_of_getElem? (i := 12) rfl)
theorem wd_829 : Cond.instanceMethod yJ4_charAt_5068e ∈ wsL_law := wc_35 (List.mem_of_getElem? (i := 13) rfl)
theorem wd_830 : Cond.selects RJ4 yJ4_charAt_5068e yJ4_charAt_5068e ∈ wsL_law := wc_35 (List.mem_of_getElem? (i := 14) rfl)
theorem wd_831 : Cond.code yJ4_charAt_5068e cJ4_charAt_5068e 2 (some .char) ∈ wsL_law := wc_35 (List.mem_of_getElem? (i := 15) rfl)
theorem wd_832 : Cond.methodLink RJ4 329 yJ5_charAt_5068e ∈ wsL_law := wc_35 (List.mem_of_getElem? (i := 16) rfl)
theorem wd_833 : Cond.sameMethod "java/lang/AbstractStringBuilder" "java/lang/AbstractStringBuilder" "charAt" "(I)C" ∈ wsL_law := wc_35 (List.mem_of_getElem? (i := 17) rfl)
theorem wd_834 : Cond.instanceMethod yJ5_charAt_5068e ∈ wsL_law := wc_35 (List.mem_of_getElem? (i := 18) rfl)
theorem wd_835 : Cond.code yJ5_charAt_5068e cJ5_charAt_5068e 5 (some .char) ∈ wsL_law := wc_35 (List.mem_of_getElem? (i := 19) rfl)
theorem wd_836 : Cond.methodLink RJ5 138 Lib.Math.min.name ∈ wsL_law := wc_35 (List.mem_of_getElem? (i := 20) rfl)
theorem wd_837 : Cond.methodLink RJ5 144 yJ0_checkIndex_df160 ∈ wsL_law := wc_35 (List.mem_of_getElem? (i := 21) rfl)
theorem wd_838 : Cond.methodLink RJ5 148 yJ2_getChar_3b067 ∈ wsL_law := wc_35 (List.mem_of_getElem? (i := 22) rfl)
theorem wd_839 : Cond.static yJ2_getChar_3b067 ∈ wsL_law := wc_35 (List.mem_of_getElem? (i := 23) rfl)
theorem wd_840 : Cond.code yJ2_getChar_3b067 cJ2_getChar_3b067 2 (some .char) ∈ wsL_law := wc_36 (List.mem_of_getElem? (i := 0) rfl)
theorem wd_841 : Cond.methodLink RL 79 yX7_lineAt ∈ wsL_law := wc_36 (List.mem_of_getElem? (i := 1) rfl)
theorem wd_842 : Cond.instanceMethod yX7_lineAt ∈ wsL_law := wc_36 (List.mem_of_getElem? (i := 2) rfl)
theorem wd_843 : Cond.selects RX7 yX7_lineAt yX7_lineAt ∈ wsL_law := wc_36 (List.mem_of_getElem? (i := 3) rfl)
theorem wd_844 : Cond.code yX7_lineAt cX7_lineAt 3 (some .int) ∈ wsL_law := wc_36 (List.mem_of_getElem? (i := 4) rfl)
theorem wd_845 : Cond.methodLink RX7 171 yX7_lineCharacter ∈ wsL_law := wc_36 (List.mem_of_getElem? (i := 5) rfl)
theorem wd_846 : Cond.instanceMethod yX7_lineCharacter ∈ wsL_law := wc_36 (List.mem_of_getElem? (i := 6) rfl)
theorem wd_847 : Cond.selects RX7 yX7_lineCharacter yX7_lineCharacter ∈ wsL_law := wc_36 (List.mem_of_getElem? (i := 7) rfl)
theorem wd_848 : Cond.code yX7_lineCharacter cX7_lineCharacter 7 (some .int) ∈ wsL_law := wc_36 (List.mem_of_getElem? (i := 8) rfl)
theorem wd_849 : Cond.constantLong RX7 65 (255) ∈ wsL_law := wc_36 (List.mem_of_getElem? (i := 9) rfl)
theorem wd_850 : Cond.methodLink RL 80 yX6_overdue ∈ wsL_law := wc_36 (List.mem_of_getElem? (i := 10) rfl)
theorem wd_851 : Cond.instanceMethod yX6_overdue ∈ wsL_law := wc_36 (List.mem_of_getElem? (i := 11) rfl)
theorem wd_852 : Cond.selects RX6 yX6_overdue yX6_overdue ∈ wsL_law := wc_36 (List.mem_of_getElem? (i := 12) rfl)
theorem wd_853 : Cond.code yX6_overdue cX6_overdue 1 (some .int) ∈ wsL_law := wc_36 (List.mem_of_getElem? (i := 13) rfl)
theorem wd_854 : Cond.methodLink RX6 136 yX1_overdueSpans ∈ wsL_law := wc_36 (List.mem_of_getElem? (i := 14) rfl)
theorem wd_855 : Cond.instanceMethod yX1_overdueSpans ∈ wsL_law := wc_36 (List.mem_of_getElem? (i := 15) rfl)
theorem wd_856 : Cond.selects RX1 yX1_overdueSpans yX1_overdueSpans ∈ wsL_law := wc_36 (List.mem_of_getElem? (i := 16) rfl)
theorem wd_857 : Cond.code yX1_overdueSpans cX1_overdueSpans 3 (some .int) ∈ wsL_law := wc_36 (List.mem_of_getElem? (i := 17) rfl)
theorem wd_858 : Cond.methodLink RL 83 yX7_overdue ∈ wsL_law := wc_36 (List.mem_of_getElem? (i := 18) rfl)
theorem wd_859 : Cond.instanceMethod yX7_overdue ∈ wsL_law := wc_36 (List.mem_of_getElem? (i := 19) rfl)
theorem wd_860 : Cond.selects RX7 yX7_overdue yX7_overdue ∈ wsL_law := wc_36 (List.mem_of_getElem? (i := 20) rfl)
theorem wd_861 : Cond.code yX7_overdue cX7_overdue 1 (some .int) ∈ wsL_law := wc_36 (List.mem_of_getElem? (i := 21) rfl)
theorem wd_862 : Cond.methodLink RX7 174 yX7_overdueMany ∈ wsL_law := wc_36 (List.mem_of_getElem? (i := 22) rfl)
theorem wd_863 : Cond.instanceMethod yX7_overdueMany ∈ wsL_law := wc_36 (List.mem_of_getElem? (i := 23) rfl)
theorem wd_864 : Cond.selects RX7 yX7_overdueMany yX7_overdueMany ∈ wsL_law := wc_37 (List.mem_of_getElem? (i := 0) rfl)
theorem wd_865 : Cond.code yX7_overdueMany cX7_overdueMany 3 (some .int) ∈ wsL_law := wc_37 (List.mem_of_getElem? (i := 1) rfl)
theorem wd_866 : Cond.methodLink RL 84 yX6_nextCheck ∈ wsL_law := wc_37 (List.mem_of_getElem? (i := 2) rfl)
theorem wd_867 : Cond.instanceMethod yX6_nextCheck ∈ wsL_law := wc_37 (List.mem_of_getElem? (i := 3) rfl)
theorem wd_868 : Cond.selects RX6 yX6_nextCheck yX6_nextCheck ∈ wsL_law := wc_37 (List.mem_of_getElem? (i := 4) rfl)
theorem wd_869 : Cond.code yX6_nextCheck cX6_nextCheck 1 (some .int) ∈ wsL_law := wc_37 (List.mem_of_getElem? (i := 5) rfl)
theorem wd_870 : Cond.methodLink RX6 139 yX1_chooseSpan ∈ wsL_law := wc_37 (List.mem_of_getElem? (i := 6) rfl)
theorem wd_871 : Cond.methodLink RL 87 yX7_nextCheck ∈ wsL_law := wc_37 (List.mem_of_getElem? (i := 7) rfl)
theorem wd_872 : Cond.instanceMethod yX7_nextCheck ∈ wsL_law := wc_37 (List.mem_of_getElem? (i := 8) rfl)
theorem wd_873 : Cond.selects RX7 yX7_nextCheck yX7_nextCheck ∈ wsL_law := wc_37 (List.mem_of_getElem? (i := 9) rfl)
theorem wd_874 : Cond.code yX7_nextCheck cX7_nextCheck 1 (some .int) ∈ wsL_law := wc_37 (List.mem_of_getElem? (i := 10) rfl)
theorem wd_875 : Cond.methodLink RL 88 yX6_checkedIn ∈ wsL_law := wc_37 (List.mem_of_getElem? (i := 11) rfl)
theorem wd_876 : Cond.instanceMethod yX6_checkedIn ∈ wsL_law := wc_37 (List.mem_of_getElem? (i := 12) rfl)
theorem wd_877 : Cond.selects RX6 yX6_checkedIn yX6_checkedIn ∈ wsL_law := wc_37 (List.mem_of_getElem? (i := 13) rfl)
theorem wd_878 : Cond.code yX6_checkedIn cX6_checkedIn 3 (some .int) ∈ wsL_law := wc_37 (List.mem_of_getElem? (i := 14) rfl)
theorem wd_879 : Cond.methodLink RX6 142 yX1_copyFrom ∈ wsL_law := wc_37 (List.mem_of_getElem? (i := 15) rfl)
theorem wd_880 : Cond.methodLink RX6 145 yX1_passQuietTick ∈ wsL_law := wc_37 (List.mem_of_getElem? (i := 16) rfl)
theorem wd_881 : Cond.methodLink RL 91 yX7_checkedIn ∈ wsL_law := wc_37 (List.mem_of_getElem? (i := 17) rfl)
theorem wd_882 : Cond.instanceMethod yX7_checkedIn ∈ wsL_law := wc_37 (List.mem_of_getElem? (i := 18) rfl)
theorem wd_883 : Cond.selects RX7 yX7_checkedIn yX7_checkedIn ∈ wsL_law := wc_37 (List.mem_of_getElem? (i := 19) rfl)
theorem wd_884 : Cond.code yX7_checkedIn cX7_checkedIn 4 (some .int) ∈ wsL_law := wc_37 (List.mem_of_getElem? (i := 20) rfl)
theorem wd_885 : Cond.methodLink RL 92 yX6_ifQuiet ∈ wsL_law := wc_37 (List.mem_of_getElem? (i := 21) rfl)
theorem wd_886 : Cond.instanceMethod yX6_ifQuiet ∈ wsL_law := wc_37 (List.mem_of_getElem? (i := 22) rfl)
theorem wd_887 : Cond.selects RX6 yX6_ifQuiet yX6_ifQuiet ∈ wsL_law := wc_37 (List.mem_of_getElem? (i := 23) rfl)
theorem wd_888 : Cond.code yX6_ifQuiet cX6_ifQuiet 2 (some .int) ∈ wsL_law := wc_38 (List.mem_of_getElem? (i := 0) rfl)
theorem wd_889 : Cond.methodLink RX6 151 yX6_overdueAfter ∈ wsL_law := wc_38 (List.mem_of_getElem? (i := 1) rfl)
theorem wd_890 : Cond.instanceMethod yX6_overdueAfter ∈ wsL_law := wc_38 (List.mem_of_getElem? (i := 2) rfl)
theorem wd_891 : Cond.selects RX6 yX6_overdueAfter yX6_overdueAfter ∈ wsL_law := wc_38 (List.mem_of_getElem? (i := 3) rfl)
theorem wd_892 : Cond.code yX6_overdueAfter cX6_overdueAfter 4 (some .int) ∈ wsL_law := wc_38 (List.mem_of_getElem? (i := 4) rfl)
theorem wd_893 : Cond.methodLink RL 95 yX7_ifQuiet ∈ wsL_law := wc_38 (List.mem_of_getElem? (i := 5) rfl)
theorem wd_894 : Cond.instanceMethod yX7_ifQuiet ∈ wsL_law := wc_38 (List.mem_of_getElem? (i := 6) rfl)
theorem wd_895 : Cond.selects RX7 yX7_ifQuiet yX7_ifQuiet ∈ wsL_law := wc_38 (List.mem_of_getElem? (i := 7) rfl)
theorem wd_896 : Cond.code yX7_ifQuiet cX7_ifQuiet 2 (some .int) ∈ wsL_law := wc_38 (List.mem_of_getElem? (i := 8) rfl)
theorem wd_897 : Cond.methodLink RX7 177 yX7_overdueIn ∈ wsL_law := wc_38 (List.mem_of_getElem? (i := 9) rfl)
theorem wd_898 : Cond.instanceMethod yX7_overdueIn ∈ wsL_law := wc_38 (List.mem_of_getElem? (i := 10) rfl)
theorem wd_899 : Cond.selects RX7 yX7_overdueIn yX7_overdueIn ∈ wsL_law := wc_38 (List.mem_of_getElem? (i := 11) rfl)
theorem wd_900 : Cond.code yX7_overdueIn cX7_overdueIn 4 (some .int) ∈ wsL_law := wc_38 (List.mem_of_getElem? (i := 12) rfl)
theorem wd_901 : Cond.methodLink RL 96 yX6_bestWay ∈ wsL_law := wc_38 (List.mem_of_getElem? (i := 13) rfl)
theorem wd_902 : Cond.instanceMethod yX6_bestWay ∈ wsL_law := wc_38 (List.mem_of_getElem? (i := 14) rfl)
theorem wd_903 : Cond.selects RX6 yX6_bestWay yX6_bestWay ∈ wsL_law := wc_38 (List.mem_of_getElem? (i := 15) rfl)
theorem wd_904 : Cond.code yX6_bestWay cX6_bestWay 6 (some .int) ∈ wsL_law := wc_38 (List.mem_of_getElem? (i := 16) rfl)
theorem wd_905 : Cond.methodLink RL 99 yX7_bestWay ∈ wsL_law := wc_38 (List.mem_of_getElem? (i := 17) rfl)
theorem wd_906 : Cond.instanceMethod yX7_bestWay ∈ wsL_law := wc_38 (List.mem_of_getElem? (i := 18) rfl)
theorem wd_907 : Cond.selects RX7 yX7_bestWay yX7_bestWay ∈ wsL_law := wc_38 (List.mem_of_getElem? (i := 19) rfl)
theorem wd_908 : Cond.code yX7_bestWay cX7_bestWay 6 (some .int) ∈ wsL_law := wc_38 (List.mem_of_getElem? (i := 20) rfl)
theorem wd_909 : Cond.methodLink RL 100 yX6_type ∈ wsL_law := wc_38 (List.mem_of_getElem? (i := 21) rfl)
theorem wd_910 : Cond.instanceMethod yX6_type ∈ wsL_law := wc_38 (List.mem_of_getElem? (i := 22) rfl)
theorem wd_911 : Cond.selects RX6 yX6_type yX6_type ∈ wsL_law := wc_38 (List.mem_of_getElem? (i := 23) rfl)
theorem wd_912 : Cond.code yX6_type cX6_type 2 (some .int) ∈ wsL_law := wc_39 (List.mem_of_getElem? (i := 0) rfl)
theorem wd_913 : Cond.methodLink RX6 154 yX4_append ∈ wsL_law := wc_39 (List.mem_of_getElem? (i := 1) rfl)
theorem wd_914 : Cond.instanceMethod yX4_append ∈ wsL_law := wc_39 (List.mem_of_getElem? (i := 2) rfl)
theorem wd_915 : Cond.selects RX4 yX4_append yX4_append ∈ wsL_law := wc_39 (List.mem_of_getElem? (i := 3) rfl)
theorem wd_916 : Cond.code yX4_append cX4_append 2 (some .int) ∈ wsL_law := wc_39 (List.mem_of_getElem? (i := 4) rfl)
theorem wd_917 : Cond.methodLink RL 103 yX7_type ∈ wsL_law := wc_39 (List.mem_of_getElem? (i := 5) rfl)
theorem wd_918 : Cond.instanceMethod yX7_type ∈ wsL_law := wc_39 (List.mem_of_getElem? (i := 6) rfl)
theorem wd_919 : Cond.selects RX7 yX7_type yX7_type ∈ wsL_law := wc_39 (List.mem_of_getElem? (i := 7) rfl)
theorem wd_920 : Cond.code yX7_type cX7_type 2 (some .int) ∈ wsL_law := wc_39 (List.mem_of_getElem? (i := 8) rfl)
theorem wd_921 : Cond.fieldLink RX7 180 "QuietChecksModel" "textLength" "I" ∈ wsL_law := wc_39 (List.mem_of_getElem? (i := 9) rfl)
theorem wd_922 : Cond.methodLink RL 104 yX6_clearText ∈ wsL_law := wc_39 (List.mem_of_getElem? (i := 10) rfl)
theorem wd_923 : Cond.instanceMethod yX6_clearText ∈ wsL_law := wc_39 (List.mem_of_getElem? (i := 11) rfl)
theorem wd_924 : Cond.selects RX6 yX6_clearText yX6_clearText ∈ wsL_law := wc_39 (List.mem_of_getElem? (i := 12) rfl)
theorem wd_925 : Cond.code yX6_clearText cX6_clearText 1 (some .int) ∈ wsL_law := wc_39 (List.mem_of_getElem? (i := 13) rfl)
theorem wd_926 : Cond.methodLink RX6 157 yX4_clear ∈ wsL_law := wc_39 (List.mem_of_getElem? (i := 14) rfl)
theorem wd_927 : Cond.instanceMethod yX4_clear ∈ wsL_law := wc_39 (List.mem_of_getElem? (i := 15) rfl)
theorem wd_928 : Cond.selects RX4 yX4_clear yX4_clear ∈ wsL_law := wc_39 (List.mem_of_getElem? (i := 16) rfl)
theorem wd_929 : Cond.code yX4_clear cX4_clear 2 (some .int) ∈ wsL_law := wc_39 (List.mem_of_getElem? (i := 17) rfl)
theorem wd_930 : Cond.methodLink RL 107 yX7_clearText ∈ wsL_law := wc_39 (List.mem_of_getElem? (i := 18) rfl)
theorem wd_931 : Cond.instanceMethod yX7_clearText ∈ wsL_law := wc_39 (List.mem_of_getElem? (i := 19) rfl)
theorem wd_932 : Cond.selects RX7 yX7_clearText yX7_clearText ∈ wsL_law := wc_39 (List.mem_of_getElem? (i := 20) rfl)
theorem wd_933 : Cond.code yX7_clearText cX7_clearText 2 (some .int) ∈ wsL_law := wc_39 (List.mem_of_getElem? (i := 21) rfl)
theorem wd_934 : Cond.methodLink RL 108 yX6_syntaxError ∈ wsL_law := wc_39 (List.mem_of_getElem? (i := 22) rfl)
theorem wd_935 : Cond.instanceMethod yX6_syntaxError ∈ wsL_law := wc_39 (List.mem_of_getElem? (i := 23) rfl)
theorem wd_936 : Cond.selects RX6 yX6_syntaxError yX6_syntaxError ∈ wsL_law := wc_40 (List.mem_of_getElem? (i := 0) rfl)
theorem wd_937 : Cond.code yX6_syntaxError cX6_syntaxError 1 (some .int) ∈ wsL_law := wc_40 (List.mem_of_getElem? (i := 1) rfl)
theorem wd_938 : Cond.methodLink RX6 160 yX4_findError ∈ wsL_law := wc_40 (List.mem_of_getElem? (i := 2) rfl)
theorem wd_939 : Cond.instanceMethod yX4_findError ∈ wsL_law := wc_40 (List.mem_of_getElem? (i := 3) rfl)
theorem wd_940 : Cond.selects RX4 yX4_findError yX4_findError ∈ wsL_law := wc_40 (List.mem_of_getElem? (i := 4) rfl)
theorem wd_941 : Cond.code yX4_findError cX4_findError 1 (some .int) ∈ wsL_law := wc_40 (List.mem_of_getElem? (i := 5) rfl)
theorem wd_942 : Cond.methodLink RX4 38 yX4_takeCommand ∈ wsL_law := wc_40 (List.mem_of_getElem? (i := 6) rfl)
theorem wd_943 : Cond.instanceMethod yX4_takeCommand ∈ wsL_law := wc_40 (List.mem_of_getElem? (i := 7) rfl)
theorem wd_944 : Cond.selects RX4 yX4_takeCommand yX4_takeCommand ∈ wsL_law := wc_40 (List.mem_of_getElem? (i := 8) rfl)
theorem wd_945 : Cond.code yX4_takeCommand cX4_takeCommand 2 (some .boolean) ∈ wsL_law := wc_40 (List.mem_of_getElem? (i := 9) rfl)
theorem wd_946 : Cond.methodLink RX4 46 yX4_sign ∈ wsL_law := wc_40 (List.mem_of_getElem? (i := 10) rfl)
theorem wd_947 : Cond.instanceMethod yX4_sign ∈ wsL_law := wc_40 (List.mem_of_getElem? (i := 11) rfl)
theorem wd_948 : Cond.selects RX4 yX4_sign yX4_sign ∈ wsL_law := wc_40 (List.mem_of_getElem? (i := 12) rfl)
theorem wd_949 : Cond.code yX4_sign cX4_sign 1 (some .char) ∈ wsL_law := wc_40 (List.mem_of_getElem? (i := 13) rfl)
theorem wd_950 : Cond.methodLink RX4 52 yX4_takeWord ∈ wsL_law := wc_40 (List.mem_of_getElem? (i := 14) rfl)
theorem wd_951 : Cond.instanceMethod yX4_takeWord ∈ wsL_law := wc_40 (List.mem_of_getElem? (i := 15) rfl)
theorem wd_952 : Cond.selects RX4 yX4_takeWord yX4_takeWord ∈ wsL_law := wc_40 (List.mem_of_getElem? (i := 16) rfl)
theorem wd_953 : Cond.code yX4_takeWord cX4_takeWord 3 (some .boolean) ∈ wsL_law := wc_40 (List.mem_of_getElem? (i := 17) rfl)
theorem wd_954 : Cond.methodLink RX4 85 yJ0_length_8abf5 ∈ wsL_law := wc_40 (List.mem_of_getElem? (i := 18) rfl)
theorem wd_955 : Cond.methodLink RX4 90 yJ0_charAt_5068e ∈ wsL_law := wc_40 (List.mem_of_getElem? (i := 19) rfl)
theorem wd_956 : Cond.instanceMethod yJ0_charAt_5068e ∈ wsL_law := wc_40 (List.mem_of_getElem? (i := 20) rfl)
theorem wd_957 : Cond.selects RJ0 yJ0_charAt_5068e yJ0_charAt_5068e ∈ wsL_law := wc_40 (List.mem_of_getElem? (i := 21) rfl)
theorem wd_958 : Cond.code yJ0_charAt_5068e cJ0_charAt_5068e 2 (some .char) ∈ wsL_law := wc_40 (List.mem_of_getElem? (i := 22) rfl)
theorem wd_959 : Cond.methodLink RJ0 492 yJ0_isLatin1_aae02 ∈ wsL_law := wc_40 (List.mem_of_getElem? (i := 23) rfl)
theorem wd_960 : Cond.instanceMethod yJ0_isLatin1_aae02 ∈ wsL_law := wc_41 (List.mem_of_getElem? (i := 0) rfl)
theorem wd_961 : Cond.selects RJ0 yJ0_isLatin1_aae02 yJ0_isLatin1_aae02 ∈ wsL_law := wc_41 (List.mem_of_getElem? (i := 1) rfl)
theorem wd_962 : Cond.code yJ0_isLatin1_aae02 cJ0_isLatin1_aae02 1 (some .boolean) ∈ wsL_law := wc_41 (List.mem_of_getElem? (i := 2) rfl)
theorem wd_963 : Cond.methodLink RJ0 495 yJ1_charAt_3b067 ∈ wsL_law := wc_41 (List.mem_of_getElem? (i := 3) rfl)
theorem wd_964 : Cond.static yJ1_charAt_3b067 ∈ wsL_law := wc_41 (List.mem_of_getElem? (i := 4) rfl)
theorem wd_965 : Cond.code yJ1_charAt_3b067 cJ1_charAt_3b067 2 (some .char) ∈ wsL_law := wc_41 (List.mem_of_getElem? (i := 5) rfl)
theorem wd_966 : Cond.methodLink RJ1 9 yJ0_checkIndex_df160 ∈ wsL_law := wc_41 (List.mem_of_getElem? (i := 6) rfl)
theorem wd_967 : Cond.methodLink RJ0 498 yJ2_charAt_3b067 ∈ wsL_law := wc_41 (List.mem_of_getElem? (i := 7) rfl)
theorem wd_968 : Cond.static yJ2_charAt_3b067 ∈ wsL_law := wc_41 (List.mem_of_getElem? (i := 8) rfl)
theorem wd_969 : Cond.code yJ2_charAt_3b067 cJ2_charAt_3b067 2 (some .char) ∈ wsL_law := wc_41 (List.mem_of_getElem? (i := 9) rfl)
theorem wd_970 : Cond.methodLink RJ2 71 yJ2_getChar_3b067 ∈ wsL_law := wc_41 (List.mem_of_getElem? (i := 10) rfl)
theorem wd_971 : Cond.methodLink RX4 42 yX4_takeSign ∈ wsL_law := wc_41 (List.mem_of_getElem? (i := 11) rfl)
theorem wd_972 : Cond.instanceMethod yX4_takeSign ∈ wsL_law := wc_41 (List.mem_of_getElem? (i := 12) rfl)
theorem wd_973 : Cond.selects RX4 yX4_takeSign yX4_takeSign ∈ wsL_law := wc_41 (List.mem_of_getElem? (i := 13) rfl)
theorem wd_974 : Cond.code yX4_takeSign cX4_takeSign 2 (some .boolean) ∈ wsL_law := wc_41 (List.mem_of_getElem? (i := 14) rfl)
theorem wd_975 : Cond.methodLink RX4 56 yX4_takeSpan ∈ wsL_law := wc_41 (List.mem_of_getElem? (i := 15) rfl)
theorem wd_976 : Cond.instanceMethod yX4_takeSpan ∈ wsL_law := wc_41 (List.mem_of_getElem? (i := 16) rfl)
theorem wd_977 : Cond.selects RX4 yX4_takeSpan yX4_takeSpan ∈ wsL_law := wc_41 (List.mem_of_getElem? (i := 17) rfl)
theorem wd_978 : Cond.code yX4_takeSpan cX4_takeSpan 1 (some .boolean) ∈ wsL_law := wc_41 (List.mem_of_getElem? (i := 18) rfl)
theorem wd_979 : Cond.methodLink RX4 76 yX4_takeDigit ∈ wsL_law := wc_41 (List.mem_of_getElem? (i := 19) rfl)
theorem wd_980 : Cond.instanceMethod yX4_takeDigit ∈ wsL_law := wc_41 (List.mem_of_getElem? (i := 20) rfl)
theorem wd_981 : Cond.selects RX4 yX4_takeDigit yX4_takeDigit ∈ wsL_law := wc_41 (List.mem_of_getElem? (i := 21) rfl)
theorem wd_982 : Cond.code yX4_takeDigit cX4_takeDigit 4 (some .boolean) ∈ wsL_law := wc_41 (List.mem_of_getElem? (i := 22) rfl)
theorem wd_983 : Cond.methodLink RX4 60 yX4_note ∈ wsL_law := wc_41 (List.mem_of_getElem? (i := 23) rfl)
theorem wd_984 : Cond.instanceMethod yX4_note ∈ wsL_law := wc_42 (List.mem_of_getElem? (i := 0) rfl)
theorem wd_985 : Cond.selects RX4 yX4_note yX4_note ∈ wsL_law := wc_42 (List.mem_of_getElem? (i := 1) rfl)
theorem wd_986 : Cond.code yX4_note cX4_note 3 (some .boolean) ∈ wsL_law := wc_42 (List.mem_of_getElem? (i := 2) rfl)
theorem wd_987 : Cond.methodLink RX4 64 yX4_takeNumber ∈ wsL_law := wc_42 (List.mem_of_getElem? (i := 3) rfl)
theorem wd_988 : Cond.instanceMethod yX4_takeNumber ∈ wsL_law := wc_42 (List.mem_of_getElem? (i := 4) rfl)
theorem wd_989 : Cond.selects RX4 yX4_takeNumber yX4_takeNumber ∈ wsL_law := wc_42 (List.mem_of_getElem? (i := 5) rfl)
theorem wd_990 : Cond.code yX4_takeNumber cX4_takeNumber 3 (some .boolean) ∈ wsL_law := wc_42 (List.mem_of_getElem? (i := 6) rfl)
theorem wd_991 : Cond.methodLink RX4 67 yX4_noteSecond ∈ wsL_law := wc_42 (List.mem_of_getElem? (i := 7) rfl)
theorem wd_992 : Cond.instanceMethod yX4_noteSecond ∈ wsL_law := wc_42 (List.mem_of_getElem? (i := 8) rfl)
theorem wd_993 : Cond.selects RX4 yX4_noteSecond yX4_noteSecond ∈ wsL_law := wc_42 (List.mem_of_getElem? (i := 9) rfl)
theorem wd_994 : Cond.code yX4_noteSecond cX4_noteSecond 2 (some .boolean) ∈ wsL_law := wc_42 (List.mem_of_getElem? (i := 10) rfl)
theorem wd_995 : Cond.methodLink RX4 82 yX4_takeWay ∈ wsL_law := wc_42 (List.mem_of_getElem? (i := 11) rfl)
theorem wd_996 : Cond.instanceMethod yX4_takeWay ∈ wsL_law := wc_42 (List.mem_of_getElem? (i := 12) rfl)
theorem wd_997 : Cond.selects RX4 yX4_takeWay yX4_takeWay ∈ wsL_law := wc_42 (List.mem_of_getElem? (i := 13) rfl)
theorem wd_998 : Cond.code yX4_takeWay cX4_takeWay 1 (some .boolean) ∈ wsL_law := wc_42 (List.mem_of_getElem? (i := 14) rfl)
theorem wd_999 : Cond.methodLink RL 111 yX7_syntaxError ∈ wsL_law := wc_42 (List.mem_of_getElem? (i := 15) rfl)
theorem wd_1000 : Cond.instanceMethod yX7_syntaxError ∈ wsL_law := wc_42 (List.mem_of_getElem? (i := 16) rfl)
theorem wd_1001 : Cond.selects RX7 yX7_syntaxError yX7_syntaxError ∈ wsL_law := wc_42 (List.mem_of_getElem? (i := 17) rfl)
theorem wd_1002 : Cond.code yX7_syntaxError cX7_syntaxError 1 (some .int) ∈ wsL_law := wc_42 (List.mem_of_getElem? (i := 18) rfl)
theorem wd_1003 : Cond.methodLink RX7 240 yX7_findError ∈ wsL_law := wc_42 (List.mem_of_getElem? (i := 19) rfl)
theorem wd_1004 : Cond.instanceMethod yX7_findError ∈ wsL_law := wc_42 (List.mem_of_getElem? (i := 20) rfl)
theorem wd_1005 : Cond.selects RX7 yX7_findError yX7_findError ∈ wsL_law := wc_42 (List.mem_of_getElem? (i := 21) rfl)
theorem wd_1006 : Cond.code yX7_findError cX7_findError 1 (some .int) ∈ wsL_law := wc_42 (List.mem_of_getElem? (i := 22) rfl)
theorem wd_1007 : Cond.fieldLink RX7 183 "QuietChecksModel" "at" "I" ∈ wsL_law := wc_42 (List.mem_of_getElem? (i := 23) rfl)
theorem wd_1008 : Cond.methodLink RX7 237 yX7_readsCommand ∈ wsL_law := wc_43 (List.mem_of_getElem? (i := 0) rfl)
theorem wd_1009 : Cond.instanceMethod yX7_readsCommand ∈ wsL_law := wc_43 (List.mem_of_getElem? (i := 1) rfl)
theorem wd_1010 : Cond.selects RX7 yX7_readsCommand yX7_readsCommand ∈ wsL_law := wc_43 (List.mem_of_getElem? (i := 2) rfl)
theorem wd_1011 : Cond.code yX7_readsCommand cX7_readsCommand 2 (some .boolean) ∈ wsL_law := wc_43 (List.mem_of_getElem? (i := 3) rfl)
theorem wd_1012 : Cond.fieldLink RX7 214 "QuietChecksModel" "command" "I" ∈ wsL_law := wc_43 (List.mem_of_getElem? (i := 4) rfl)
theorem wd_1013 : Cond.constantLong RX7 217 (139123058034) ∈ wsL_law := wc_43 (List.mem_of_getElem? (i := 5) rfl)
theorem wd_1014 : Cond.fieldLink RX7 192 "QuietChecksModel" "number" "I" ∈ wsL_law := wc_43 (List.mem_of_getElem? (i := 6) rfl)
theorem wd_1015 : Cond.fieldLink RX7 201 "QuietChecksModel" "two" "I" ∈ wsL_law := wc_43 (List.mem_of_getElem? (i := 7) rfl)
theorem wd_1016 : Cond.constantLong RX7 226 (35684289705329) ∈ wsL_law := wc_43 (List.mem_of_getElem? (i := 8) rfl)
theorem wd_1017 : Cond.constantLong RX7 228 (543912801) ∈ wsL_law := wc_43 (List.mem_of_getElem? (i := 9) rfl)
theorem wd_1018 : Cond.constantLong RX7 230 (139392413811) ∈ wsL_law := wc_43 (List.mem_of_getElem? (i := 10) rfl)
theorem wd_1019 : Cond.constantLong RX7 232 (544825719) ∈ wsL_law := wc_43 (List.mem_of_getElem? (i := 11) rfl)
theorem wd_1020 : Cond.methodLink RX7 186 yX7_character ∈ wsL_law := wc_43 (List.mem_of_getElem? (i := 12) rfl)
theorem wd_1021 : Cond.instanceMethod yX7_character ∈ wsL_law := wc_43 (List.mem_of_getElem? (i := 13) rfl)
theorem wd_1022 : Cond.selects RX7 yX7_character yX7_character ∈ wsL_law := wc_43 (List.mem_of_getElem? (i := 14) rfl)
theorem wd_1023 : Cond.code yX7_character cX7_character 2 (some .int) ∈ wsL_law := wc_43 (List.mem_of_getElem? (i := 15) rfl)
theorem wd_1024 : Cond.methodLink RX7 210 yX7_readsWord ∈ wsL_law := wc_43 (List.mem_of_getElem? (i := 16) rfl)
theorem wd_1025 : Cond.instanceMethod yX7_readsWord ∈ wsL_law := wc_43 (List.mem_of_getElem? (i := 17) rfl)
theorem wd_1026 : Cond.selects RX7 yX7_readsWord yX7_readsWord ∈ wsL_law := wc_43 (List.mem_of_getElem? (i := 18) rfl)
theorem wd_1027 : Cond.code yX7_readsWord cX7_readsWord 6 (some .boolean) ∈ wsL_law := wc_43 (List.mem_of_getElem? (i := 19) rfl)
theorem wd_1028 : Cond.methodLink RX7 189 yX7_isNext ∈ wsL_law := wc_43 (List.mem_of_getElem? (i := 20) rfl)
theorem wd_1029 : Cond.instanceMethod yX7_isNext ∈ wsL_law := wc_43 (List.mem_of_getElem? (i := 21) rfl)
theorem wd_1030 : Cond.selects RX7 yX7_isNext yX7_isNext ∈ wsL_law := wc_43 (List.mem_of_getElem? (i := 22) rfl)
theorem wd_1031 : Cond.code yX7_isNext cX7_isNext 3 (some .boolean) ∈ wsL_law := wc_43 (List.mem_of_getElem? (i := 23) rfl)
theorem wd_1032 : Cond.methodLink RX7 219 yX7_readsSpan ∈ wsL_law := wc_44 (List.mem_of_getElem? (i := 0) rfl)
theorem wd_1033 : Cond.instanceMethod yX7_readsSpan ∈ wsL_law := wc_44 (List.mem_of_getElem? (i := 1) rfl)
theorem wd_1034 : Cond.selects RX7 yX7_readsSpan yX7_readsSpan ∈ wsL_law := wc_44 (List.mem_of_getElem? (i := 2) rfl)
theorem wd_1035 : Cond.code yX7_readsSpan cX7_readsSpan 2 (some .boolean) ∈ wsL_law := wc_44 (List.mem_of_getElem? (i := 3) rfl)
theorem wd_1036 : Cond.fieldLink RX7 198 "QuietChecksModel" "one" "I" ∈ wsL_law := wc_44 (List.mem_of_getElem? (i := 4) rfl)
theorem wd_1037 : Cond.methodLink RX7 195 yX7_readsDigit ∈ wsL_law := wc_44 (List.mem_of_getElem? (i := 5) rfl)
theorem wd_1038 : Cond.instanceMethod yX7_readsDigit ∈ wsL_law := wc_44 (List.mem_of_getElem? (i := 6) rfl)
theorem wd_1039 : Cond.selects RX7 yX7_readsDigit yX7_readsDigit ∈ wsL_law := wc_44 (List.mem_of_getElem? (i := 7) rfl)
theorem wd_1040 : Cond.code yX7_readsDigit cX7_readsDigit 4 (some .boolean) ∈ wsL_law := wc_44 (List.mem_of_getElem? (i := 8) rfl)
theorem wd_1041 : Cond.methodLink RX7 223 yX7_readsNumber ∈ wsL_law := wc_44 (List.mem_of_getElem? (i := 9) rfl)
theorem wd_1042 : Cond.instanceMethod yX7_readsNumber ∈ wsL_law := wc_44 (List.mem_of_getElem? (i := 10) rfl)
theorem wd_1043 : Cond.selects RX7 yX7_readsNumber yX7_readsNumber ∈ wsL_law := wc_44 (List.mem_of_getElem? (i := 11) rfl)
theorem wd_1044 : Cond.code yX7_readsNumber cX7_readsNumber 2 (some .boolean) ∈ wsL_law := wc_44 (List.mem_of_getElem? (i := 12) rfl)
theorem wd_1045 : Cond.methodLink RX7 234 yX7_readsWay ∈ wsL_law := wc_44 (List.mem_of_getElem? (i := 13) rfl)
theorem wd_1046 : Cond.instanceMethod yX7_readsWay ∈ wsL_law := wc_44 (List.mem_of_getElem? (i := 14) rfl)
theorem wd_1047 : Cond.selects RX7 yX7_readsWay yX7_readsWay ∈ wsL_law := wc_44 (List.mem_of_getElem? (i := 15) rfl)
theorem wd_1048 : Cond.code yX7_readsWay cX7_readsWay 2 (some .boolean) ∈ wsL_law := wc_44 (List.mem_of_getElem? (i := 16) rfl)
theorem wd_1049 : Cond.constantLong RX7 204 (128038971141231) ∈ wsL_law := wc_44 (List.mem_of_getElem? (i := 17) rfl)
theorem wd_1050 : Cond.constantLong RX7 206 (500153085815) ∈ wsL_law := wc_44 (List.mem_of_getElem? (i := 18) rfl)
theorem wd_1051 : Cond.constantLong RX7 208 (7827314) ∈ wsL_law := wc_44 (List.mem_of_getElem? (i := 19) rfl)
theorem wd_1052 : Cond.methodLink RL 112 yX6_carryOut ∈ wsL_law := wc_44 (List.mem_of_getElem? (i := 20) rfl)
theorem wd_1053 : Cond.instanceMethod yX6_carryOut ∈ wsL_law := wc_44 (List.mem_of_getElem? (i := 21) rfl)
theorem wd_1054 : Cond.selects RX6 yX6_carryOut yX6_carryOut ∈ wsL_law := wc_44 (List.mem_of_getElem? (i := 22) rfl)
theorem wd_1055 : Cond.code yX6_carryOut cX6_carryOut 3 (some .int) ∈ wsL_law := wc_44 (List.mem_of_getElem? (i := 23) rfl)
theorem wd_1056 : Cond.methodLink RX6 166 yX6_doCommand ∈ wsL_law := wc_45 (List.mem_of_getElem? (i := 0) rfl)
theorem wd_1057 : Cond.instanceMethod yX6_doCommand ∈ wsL_law := wc_45 (List.mem_of_getElem? (i := 1) rfl)
theorem wd_1058 : Cond.selects RX6 yX6_doCommand yX6_doCommand ∈ wsL_law := wc_45 (List.mem_of_getElem? (i := 2) rfl)
theorem wd_1059 : Cond.code yX6_doCommand cX6_doCommand 4 (some .int) ∈ wsL_law := wc_45 (List.mem_of_getElem? (i := 3) rfl)
theorem wd_1060 : Cond.methodLink RL 115 yX7_carryOut ∈ wsL_law := wc_45 (List.mem_of_getElem? (i := 4) rfl)
theorem wd_1061 : Cond.instanceMethod yX7_carryOut ∈ wsL_law := wc_45 (List.mem_of_getElem? (i := 5) rfl)
theorem wd_1062 : Cond.selects RX7 yX7_carryOut yX7_carryOut ∈ wsL_law := wc_45 (List.mem_of_getElem? (i := 6) rfl)
theorem wd_1063 : Cond.code yX7_carryOut cX7_carryOut 3 (some .int) ∈ wsL_law := wc_45 (List.mem_of_getElem? (i := 7) rfl)
theorem wd_1064 : Cond.methodLink RX7 243 yX7_whyNotDone ∈ wsL_law := wc_45 (List.mem_of_getElem? (i := 8) rfl)
theorem wd_1065 : Cond.instanceMethod yX7_whyNotDone ∈ wsL_law := wc_45 (List.mem_of_getElem? (i := 9) rfl)
theorem wd_1066 : Cond.selects RX7 yX7_whyNotDone yX7_whyNotDone ∈ wsL_law := wc_45 (List.mem_of_getElem? (i := 10) rfl)
theorem wd_1067 : Cond.code yX7_whyNotDone cX7_whyNotDone 1 (some .int) ∈ wsL_law := wc_45 (List.mem_of_getElem? (i := 11) rfl)
theorem wd_1068 : Cond.methodLink RX7 246 yX7_does ∈ wsL_law := wc_45 (List.mem_of_getElem? (i := 12) rfl)
theorem wd_1069 : Cond.instanceMethod yX7_does ∈ wsL_law := wc_45 (List.mem_of_getElem? (i := 13) rfl)
theorem wd_1070 : Cond.selects RX7 yX7_does yX7_does ∈ wsL_law := wc_45 (List.mem_of_getElem? (i := 14) rfl)
theorem wd_1071 : Cond.code yX7_does cX7_does 1 none ∈ wsL_law := wc_45 (List.mem_of_getElem? (i := 15) rfl)
theorem wd_1072 : Cond.methodLink RL 116 yX6_undo ∈ wsL_law := wc_45 (List.mem_of_getElem? (i := 16) rfl)
theorem wd_1073 : Cond.instanceMethod yX6_undo ∈ wsL_law := wc_45 (List.mem_of_getElem? (i := 17) rfl)
theorem wd_1074 : Cond.selects RX6 yX6_undo yX6_undo ∈ wsL_law := wc_45 (List.mem_of_getElem? (i := 18) rfl)
theorem wd_1075 : Cond.code yX6_undo cX6_undo 1 (some .int) ∈ wsL_law := wc_45 (List.mem_of_getElem? (i := 19) rfl)
theorem wd_1076 : Cond.methodLink RX6 169 yX2_restore ∈ wsL_law := wc_45 (List.mem_of_getElem? (i := 20) rfl)
theorem wd_1077 : Cond.instanceMethod yX2_restore ∈ wsL_law := wc_45 (List.mem_of_getElem? (i := 21) rfl)
theorem wd_1078 : Cond.selects RX2 yX2_restore yX2_restore ∈ wsL_law := wc_45 (List.mem_of_getElem? (i := 22) rfl)
theorem wd_1079 : Cond.code yX2_restore cX2_restore 3 (some .int) ∈ wsL_law := wc_45 (List.mem_of_getElem? (i := 23) rfl)
theorem wd_1080 : Cond.methodLink RL 119 yX7_undo ∈ wsL_law := wc_46 (List.mem_of_getElem? (i := 0) rfl)
theorem wd_1081 : Cond.instanceMethod yX7_undo ∈ wsL_law := wc_46 (List.mem_of_getElem? (i := 1) rfl)
theorem wd_1082 : Cond.selects RX7 yX7_undo yX7_undo ∈ wsL_law := wc_46 (List.mem_of_getElem? (i := 2) rfl)
theorem wd_1083 : Cond.code yX7_undo cX7_undo 1 (some .int) ∈ wsL_law := wc_46 (List.mem_of_getElem? (i := 3) rfl)
theorem wd_1084 : Cond.methodLink RL 120 yX6_digest ∈ wsL_law := wc_46 (List.mem_of_getElem? (i := 4) rfl)
theorem wd_1085 : Cond.instanceMethod yX6_digest ∈ wsL_law := wc_46 (List.mem_of_getElem? (i := 5) rfl)
theorem wd_1086 : Cond.selects RX6 yX6_digest yX6_digest ∈ wsL_law := wc_46 (List.mem_of_getElem? (i := 6) rfl)
theorem wd_1087 : Cond.code yX6_digest cX6_digest 4 (some .long) ∈ wsL_law := wc_46 (List.mem_of_getElem? (i := 7) rfl)
theorem wd_1088 : Cond.constantLong RX6 173 (448) ∈ wsL_law := wc_46 (List.mem_of_getElem? (i := 8) rfl)
theorem wd_1089 : Cond.constantLong RX6 175 (31) ∈ wsL_law := wc_46 (List.mem_of_getElem? (i := 9) rfl)
theorem wd_1090 : Cond.methodLink RX6 177 yX6_count ∈ wsL_law := wc_46 (List.mem_of_getElem? (i := 10) rfl)
theorem wd_1091 : Cond.methodLink RX6 180 yX6_setting ∈ wsL_law := wc_46 (List.mem_of_getElem? (i := 11) rfl)
theorem wd_1092 : Cond.methodLink RX6 183 yX6_hashSpan ∈ wsL_law := wc_46 (List.mem_of_getElem? (i := 12) rfl)
theorem wd_1093 : Cond.instanceMethod yX6_hashSpan ∈ wsL_law := wc_46 (List.mem_of_getElem? (i := 13) rfl)
theorem wd_1094 : Cond.selects RX6 yX6_hashSpan yX6_hashSpan ∈ wsL_law := wc_46 (List.mem_of_getElem? (i := 14) rfl)
theorem wd_1095 : Cond.code yX6_hashSpan cX6_hashSpan 8 (some .long) ∈ wsL_law := wc_46 (List.mem_of_getElem? (i := 15) rfl)
theorem wd_1096 : Cond.methodLink RX6 199 yX6_span ∈ wsL_law := wc_46 (List.mem_of_getElem? (i := 16) rfl)
theorem wd_1097 : Cond.methodLink RX6 202 yX5_sizeOf ∈ wsL_law := wc_46 (List.mem_of_getElem? (i := 17) rfl)
theorem wd_1098 : Cond.methodLink RX6 205 yX6_tries ∈ wsL_law := wc_46 (List.mem_of_getElem? (i := 18) rfl)
theorem wd_1099 : Cond.methodLink RX6 187 yX6_entries ∈ wsL_law := wc_46 (List.mem_of_getElem? (i := 19) rfl)
theorem wd_1100 : Cond.methodLink RX6 190 yX6_hashEntry ∈ wsL_law := wc_46 (List.mem_of_getElem? (i := 20) rfl)
theorem wd_1101 : Cond.instanceMethod yX6_hashEntry ∈ wsL_law := wc_46 (List.mem_of_getElem? (i := 21) rfl)
theorem wd_1102 : Cond.selects RX6 yX6_hashEntry yX6_hashEntry ∈ wsL_law := wc_46 (List.mem_of_getElem? (i := 22) rfl)
theorem wd_1103 : Cond.code yX6_hashEntry cX6_hashEntry 7 (some .long) ∈ wsL_law := wc_46 (List.mem_of_getElem? (i := 23) rfl)
theorem wd_1104 : Cond.methodLink RX6 193 yX6_overdue ∈ wsL_law := wc_47 (List.mem_of_getElem? (i := 0) rfl)
theorem wd_1105 : Cond.methodLink RX6 196 yX6_nextCheck ∈ wsL_law := wc_47 (List.mem_of_getElem? (i := 1) rfl)
theorem wd_1106 : Cond.methodLink RL 124 yX7_digest ∈ wsL_law := wc_47 (List.mem_of_getElem? (i := 2) rfl)
theorem wd_1107 : Cond.instanceMethod yX7_digest ∈ wsL_law := wc_47 (List.mem_of_getElem? (i := 3) rfl)
theorem wd_1108 : Cond.selects RX7 yX7_digest yX7_digest ∈ wsL_law := wc_47 (List.mem_of_getElem? (i := 4) rfl)
theorem wd_1109 : Cond.code yX7_digest cX7_digest 5 (some .long) ∈ wsL_law := wc_47 (List.mem_of_getElem? (i := 5) rfl)
theorem wd_1110 : Cond.constantLong RX7 249 (448) ∈ wsL_law := wc_47 (List.mem_of_getElem? (i := 6) rfl)
theorem wd_1111 : Cond.constantLong RX7 251 (31) ∈ wsL_law := wc_47 (List.mem_of_getElem? (i := 7) rfl)
end
section
abbrev tX5 : Type := (Nat → Int32) × (Nat → Int32) × Int32
def wX5 (G : zG) (ad : Nat → Nat) (b : Nat) (u : tX5) : va_W := [(ad b, .inr (6, [.ref (ad (b + 1)), .ref (ad (b + 2)), .int u.2.2])), (ad (b + 1), .inl (G.1.1, 20, .inl u.1)), (ad (b + 2), .inl (G.1.1, 20, .inl u.2.1))]
abbrev tX0 : Type := (Nat → Int32) × Int32
def wX0 (G : zG) (ad : Nat → Nat) (b : Nat) (u : tX0) : va_W := [(ad b, .inr (1, [.ref (ad (b + 1)), .int u.2])), (ad (b + 1), .inl (G.1.1, 6, .inl u.1))]
abbrev tX3 : Type := (Nat → Int32) × (Nat → Int32) × (Nat → Int32) × Int32 × Int32
def wX3 (G : zG) (ad : Nat → Nat) (b : Nat) (u : tX3) : va_W := [(ad b, .inr (4, [.ref (ad (b + 1)), .ref (ad (b + 2)), .ref (ad (b + 3)), .int u.2.2.2.1, .int u.2.2.2.2])), (ad (b + 1), .inl (G.1.1, 10, .inl u.1)), (ad (b + 2), .inl (G.1.1, 10, .inl u.2.1)), (ad (b + 3), .inl (G.1.1, 10, .inl u.2.2.1))]
abbrev tX1 : Type := (Nat → Int32) × (Nat → Int32) × tX5 × tX0 × tX3 × Int32 × Int32 × Int32 × Int32 × Int32 × Int32 × Int32 × Int32 × Int32 × Int32 × Int32 × Int32
def wX1 (G : zG) (ad : Nat → Nat) (b : Nat) (u : tX1) : va_W := [(ad b, .inr (2, [.ref (ad (b + 1)), .ref (ad (b + 2)), .ref (ad (b + 3)), .ref (ad (b + 6)), .ref (ad (b + 8)), .int u.2.2.2.2.2.1, .int u.2.2.2.2.2.2.1, .int u.2.2.2.2.2.2.2.1, .int u.2.2.2.2.2.2.2.2.1, .int u.2.2.2.2.2.2.2.2.2.1, .int u.2.2.2.2.2.2.2.2.2.2.1, .int u.2.2.2.2.2.2.2.2.2.2.2.1, .int u.2.2.2.2.2.2.2.2.2.2.2.2.1, .int u.2.2.2.2.2.2.2.2.2.2.2.2.2.1, .int u.2.2.2.2.2.2.2.2.2.2.2.2.2.2.1, .int u.2.2.2.2.2.2.2.2.2.2.2.2.2.2.2.1, .int u.2.2.2.2.2.2.2.2.2.2.2.2.2.2.2.2])), (ad (b + 1), .inl (G.1.1, 5, .inl u.1)), (ad (b + 2), .inl (G.1.1, 8, .inl u.2.1))] ++ (wX5 G ad (b + 3) u.2.2.1 ++ (wX0 G ad (b + 6) u.2.2.2.1 ++ (wX3 G ad (b + 8) u.2.2.2.2.1)))
def rX1_spots (G : zG) (ad : Nat → Nat) (b : Nat) (u : tX1) : va_W := ([(ad b, .inr (2, [.ref (ad (b + 1)), .ref (ad (b + 2)), .ref (ad (b + 3)), .ref (ad (b + 6)), .ref (ad (b + 8)), .int u.2.2.2.2.2.1, .int u.2.2.2.2.2.2.1, .int u.2.2.2.2.2.2.2.1, .int u.2.2.2.2.2.2.2.2.1, .int u.2.2.2.2.2.2.2.2.2.1, .int u.2.2.2.2.2.2.2.2.2.2.1, .int u.2.2.2.2.2.2.2.2.2.2.2.1, .int u.2.2.2.2.2.2.2.2.2.2.2.2.1, .int u.2.2.2.2.2.2.2.2.2.2.2.2.2.1, .int u.2.2.2.2.2.2.2.2.2.2.2.2.2.2.1, .int u.2.2.2.2.2.2.2.2.2.2.2.2.2.2.2.1, .int u.2.2.2.2.2.2.2.2.2.2.2.2.2.2.2.2])), (ad (b + 1), .inl (G.1.1, 5, .inl u.1)), (ad (b + 2), .inl (G.1.1, 8, .inl u.2.1))]) ++ (wX0 G ad (b + 6) u.2.2.2.1 ++ (wX3 G ad (b + 8) u.2.2.2.2.1))
theorem pmX1_spots (G : zG) (ad : Nat → Nat) (b : Nat) (u : tX1) : (wX1 G ad b u).Perm (wX5 G ad (b + 3) u.2.2.1 ++ rX1_spots G ad b u) := z_pmid (X := [(ad b, .inr (2, [.ref (ad (b + 1)), .ref (ad (b + 2)), .ref (ad (b + 3)), .ref (ad (b + 6)), .ref (ad (b + 8)), .int u.2.2.2.2.2.1, .int u.2.2.2.2.2.2.1, .int u.2.2.2.2.2.2.2.1, .int u.2.2.2.2.2.2.2.2.1, .int u.2.2.2.2.2.2.2.2.2.1, .int u.2.2.2.2.2.2.2.2.2.2.1, .int u.2.2.2.2.2.2.2.2.2.2.2.1, .int u.2.2.2.2.2.2.2.2.2.2.2.2.1, .int u.2.2.2.2.2.2.2.2.2.2.2.2.2.1, .int u.2.2.2.2.2.2.2.2.2.2.2.2.2.2.1, .int u.2.2.2.2.2.2.2.2.2.2.2.2.2.2.2.1, .int u.2.2.2.2.2.2.2.2.2.2.2.2.2.2.2.2])), (ad (b + 1), .inl (G.1.1, 5, .inl u.1)), (ad (b + 2), .inl (G.1.1, 8, .inl u.2.1))]) (Y := wX0 G ad (b + 6) u.2.2.2.1 ++ (wX3 G ad (b + 8) u.2.2.2.2.1))
theorem pnX1_spots (G : zG) (ad : Nat → Nat) (b : Nat) (u : tX1) (v : tX5) : (wX5 G ad (b + 3) v ++ rX1_spots G ad b u).Perm (wX1 G ad b (u.1, u.2.1, v, u.2.2.2.1, u.2.2.2.2.1, u.2.2.2.2.2.1, u.2.2.2.2.2.2.1, u.2.2.2.2.2.2.2.1, u.2.2.2.2.2.2.2.2.1, u.2.2.2.2.2.2.2.2.2.1, u.2.2.2.2.2.2.2.2.2.2.1, u.2.2.2.2.2.2.2.2.2.2.2.1, u.2.2.2.2.2.2.2.2.2.2.2.2.1, u.2.2.2.2.2.2.2.2.2.2.2.2.2.1, u.2.2.2.2.2.2.2.2.2.2.2.2.2.2.1, u.2.2.2.2.2.2.2.2.2.2.2.2.2.2.2.1, u.2.2.2.2.2.2.2.2.2.2.2.2.2.2.2.2)) := (pmX1_spots G ad b (u.1, u.2.1, v, u.2.2.2.1, u.2.2.2.2.1, u.2.2.2.2.2.1, u.2.2.2.2.2.2.1, u.2.2.2.2.2.2.2.1, u.2.2.2.2.2.2.2.2.1, u.2.2.2.2.2.2.2.2.2.1, u.2.2.2.2.2.2.2.2.2.2.1, u.2.2.2.2.2.2.2.2.2.2.2.1, u.2.2.2.2.2.2.2.2.2.2.2.2.1, u.2.2.2.2.2.2.2.2.2.2.2.2.2.1, u.2.2.2.2.2.2.2.2.2.2.2.2.2.2.1, u.2.2.2.2.2.2.2.2.2.2.2.2.2.2.2.1, u.2.2.2.2.2.2.2.2.2.2.2.2.2.2.2.2)).symm
def rX1_asked (G : zG) (ad : Nat → Nat) (b : Nat) (u : tX1) : va_W := ([(ad b, .inr (2, [.ref (ad (b + 1)), .ref (ad (b + 2)), .ref (ad (b + 3)), .ref (ad (b + 6)), .ref (ad (b + 8)), .int u.2.2.2.2.2.1, .int u.2.2.2.2.2.2.1, .int u.2.2.2.2.2.2.2.1, .int u.2.2.2.2.2.2.2.2.1, .int u.2.2.2.2.2.2.2.2.2.1, .int u.2.2.2.2.2.2.2.2.2.2.1, .int u.2.2.2.2.2.2.2.2.2.2.2.1, .int u.2.2.2.2.2.2.2.2.2.2.2.2.1, .int u.2.2.2.2.2.2.2.2.2.2.2.2.2.1, .int u.2.2.2.2.2.2.2.2.2.2.2.2.2.2.1, .int u.2.2.2.2.2.2.2.2.2.2.2.2.2.2.2.1, .int u.2.2.2.2.2.2.2.2.2.2.2.2.2.2.2.2])), (ad (b + 1), .inl (G.1.1, 5, .inl u.1)), (ad (b + 2), .inl (G.1.1, 8, .inl u.2.1))] ++ (wX5 G ad (b + 3) u.2.2.1)) ++ (wX3 G ad (b + 8) u.2.2.2.2.1)
theorem pmX1_asked (G : zG) (ad : Nat → Nat) (b : Nat) (u : tX1) : (wX1 G ad b u).Perm (wX0 G ad (b + 6) u.2.2.2.1 ++ rX1_asked G ad b u) := by
  have h := z_pmid (X := [(ad b, .inr (2, [.ref (ad (b + 1)), .ref (ad (b + 2)), .ref (ad (b + 3)), .ref (ad (b + 6)), .ref (ad (b + 8)), .int u.2.2.2.2.2.1, .int u.2.2.2.2.2.2.1, .int u.2.2.2.2.2.2.2.1, .int u.2.2.2.2.2.2.2.2.1, .int u.2.2.2.2.2.2.2.2.2.1, .int u.2.2.2.2.2.2.2.2.2.2.1, .int u.2.2.2.2.2.2.2.2.2.2.2.1, .int u.2.2.2.2.2.2.2.2.2.2.2.2.1, .int u.2.2.2.2.2.2.2.2.2.2.2.2.2.1, .int u.2.2.2.2.2.2.2.2.2.2.2.2.2.2.1, .int u.2.2.2.2.2.2.2.2.2.2.2.2.2.2.2.1, .int u.2.2.2.2.2.2.2.2.2.2.2.2.2.2.2.2])), (ad (b + 1), .inl (G.1.1, 5, .inl u.1)), (ad (b + 2), .inl (G.1.1, 8, .inl u.2.1))] ++ (wX5 G ad (b + 3) u.2.2.1)) (wc := wX0 G ad (b + 6) u.2.2.2.1) (Y := wX3 G ad (b + 8) u.2.2.2.2.1)
  rw [List.append_assoc] at h
  exact h
theorem pnX1_asked (G : zG) (ad : Nat → Nat) (b : Nat) (u : tX1) (v : tX0) : (wX0 G ad (b + 6) v ++ rX1_asked G ad b u).Perm (wX1 G ad b (u.1, u.2.1, u.2.2.1, v, u.2.2.2.2.1, u.2.2.2.2.2.1, u.2.2.2.2.2.2.1, u.2.2.2.2.2.2.2.1, u.2.2.2.2.2.2.2.2.1, u.2.2.2.2.2.2.2.2.2.1, u.2.2.2.2.2.2.2.2.2.2.1, u.2.2.2.2.2.2.2.2.2.2.2.1, u.2.2.2.2.2.2.2.2.2.2.2.2.1, u.2.2.2.2.2.2.2.2.2.2.2.2.2.1, u.2.2.2.2.2.2.2.2.2.2.2.2.2.2.1, u.2.2.2.2.2.2.2.2.2.2.2.2.2.2.2.1, u.2.2.2.2.2.2.2.2.2.2.2.2.2.2.2.2)) := (pmX1_asked G ad b (u.1, u.2.1, u.2.2.1, v, u.2.2.2.2.1, u.2.2.2.2.2.1, u.2.2.2.2.2.2.1, u.2.2.2.2.2.2.2.1, u.2.2.2.2.2.2.2.2.1, u.2.2.2.2.2.2.2.2.2.1, u.2.2.2.2.2.2.2.2.2.2.1, u.2.2.2.2.2.2.2.2.2.2.2.1, u.2.2.2.2.2.2.2.2.2.2.2.2.1, u.2.2.2.2.2.2.2.2.2.2.2.2.2.1, u.2.2.2.2.2.2.2.2.2.2.2.2.2.2.1, u.2.2.2.2.2.2.2.2.2.2.2.2.2.2.2.1, u.2.2.2.2.2.2.2.2.2.2.2.2.2.2.2.2)).symm
def rX1_log (G : zG) (ad : Nat → Nat) (b : Nat) (u : tX1) : va_W := ([(ad b, .inr (2, [.ref (ad (b + 1)), .ref (ad (b + 2)), .ref (ad (b + 3)), .ref (ad (b + 6)), .ref (ad (b + 8)), .int u.2.2.2.2.2.1, .int u.2.2.2.2.2.2.1, .int u.2.2.2.2.2.2.2.1, .int u.2.2.2.2.2.2.2.2.1, .int u.2.2.2.2.2.2.2.2.2.1, .int u.2.2.2.2.2.2.2.2.2.2.1, .int u.2.2.2.2.2.2.2.2.2.2.2.1, .int u.2.2.2.2.2.2.2.2.2.2.2.2.1, .int u.2.2.2.2.2.2.2.2.2.2.2.2.2.1, .int u.2.2.2.2.2.2.2.2.2.2.2.2.2.2.1, .int u.2.2.2.2.2.2.2.2.2.2.2.2.2.2.2.1, .int u.2.2.2.2.2.2.2.2.2.2.2.2.2.2.2.2])), (ad (b + 1), .inl (G.1.1, 5, .inl u.1)), (ad (b + 2), .inl (G.1.1, 8, .inl u.2.1))] ++ (wX5 G ad (b + 3) u.2.2.1 ++ (wX0 G ad (b + 6) u.2.2.2.1))) ++ (([] : va_W))
theorem pmX1_log (G : zG) (ad : Nat → Nat) (b : Nat) (u : tX1) : (wX1 G ad b u).Perm (wX3 G ad (b + 8) u.2.2.2.2.1 ++ rX1_log G ad b u) := by
  have h := z_pmid (X := [(ad b, .inr (2, [.ref (ad (b + 1)), .ref (ad (b + 2)), .ref (ad (b + 3)), .ref (ad (b + 6)), .ref (ad (b + 8)), .int u.2.2.2.2.2.1, .int u.2.2.2.2.2.2.1, .int u.2.2.2.2.2.2.2.1, .int u.2.2.2.2.2.2.2.2.1, .int u.2.2.2.2.2.2.2.2.2.1, .int u.2.2.2.2.2.2.2.2.2.2.1, .int u.2.2.2.2.2.2.2.2.2.2.2.1, .int u.2.2.2.2.2.2.2.2.2.2.2.2.1, .int u.2.2.2.2.2.2.2.2.2.2.2.2.2.1, .int u.2.2.2.2.2.2.2.2.2.2.2.2.2.2.1, .int u.2.2.2.2.2.2.2.2.2.2.2.2.2.2.2.1, .int u.2.2.2.2.2.2.2.2.2.2.2.2.2.2.2.2])), (ad (b + 1), .inl (G.1.1, 5, .inl u.1)), (ad (b + 2), .inl (G.1.1, 8, .inl u.2.1))] ++ (wX5 G ad (b + 3) u.2.2.1 ++ (wX0 G ad (b + 6) u.2.2.2.1))) (wc := wX3 G ad (b + 8) u.2.2.2.2.1) (Y := ([] : va_W))
  rw [List.append_assoc] at h
  exact h
theorem pnX1_log (G : zG) (ad : Nat → Nat) (b : Nat) (u : tX1) (v : tX3) : (wX3 G ad (b + 8) v ++ rX1_log G ad b u).Perm (wX1 G ad b (u.1, u.2.1, u.2.2.1, u.2.2.2.1, v, u.2.2.2.2.2.1, u.2.2.2.2.2.2.1, u.2.2.2.2.2.2.2.1, u.2.2.2.2.2.2.2.2.1, u.2.2.2.2.2.2.2.2.2.1, u.2.2.2.2.2.2.2.2.2.2.1, u.2.2.2.2.2.2.2.2.2.2.2.1, u.2.2.2.2.2.2.2.2.2.2.2.2.1, u.2.2.2.2.2.2.2.2.2.2.2.2.2.1, u.2.2.2.2.2.2.2.2.2.2.2.2.2.2.1, u.2.2.2.2.2.2.2.2.2.2.2.2.2.2.2.1, u.2.2.2.2.2.2.2.2.2.2.2.2.2.2.2.2)) := (pmX1_log G ad b (u.1, u.2.1, u.2.2.1, u.2.2.2.1, v, u.2.2.2.2.2.1, u.2.2.2.2.2.2.1, u.2.2.2.2.2.2.2.1, u.2.2.2.2.2.2.2.2.1, u.2.2.2.2.2.2.2.2.2.1, u.2.2.2.2.2.2.2.2.2.2.1, u.2.2.2.2.2.2.2.2.2.2.2.1, u.2.2.2.2.2.2.2.2.2.2.2.2.1, u.2.2.2.2.2.2.2.2.2.2.2.2.2.1, u.2.2.2.2.2.2.2.2.2.2.2.2.2.2.1, u.2.2.2.2.2.2.2.2.2.2.2.2.2.2.2.1, u.2.2.2.2.2.2.2.2.2.2.2.2.2.2.2.2)).symm
abbrev tX4 : Type := (Nat → Int32) × Int32 × Int32 × (Nat → Int32) × (Nat → Int32) × (Nat → Int32) × Int32 × Int32
def wX4 (G : zG) (ad : Nat → Nat) (b : Nat) (u : tX4) : va_W := [(ad b, .inr (5, [.ref (ad (b + 1)), .int u.2.1, .int u.2.2.1, .ref (ad (b + 2)), .ref (ad (b + 3)), .ref (ad (b + 4)), .int u.2.2.2.2.2.2.1, .int u.2.2.2.2.2.2.2])), (ad (b + 1), .inl (G.1.2.1, 80, .inl u.1)), (ad (b + 2), .inl (G.1.1, 16, .inl u.2.2.2.1)), (ad (b + 3), .inl (G.1.1, 16, .inl u.2.2.2.2.1)), (ad (b + 4), .inl (G.1.1, 16, .inl u.2.2.2.2.2.1))]
abbrev tX7 : Type := (Nat → Int32) × (Nat → Int32) × (Nat → Int32) × Int32 × (Nat → Int32) × Int32 × Int32 × Int32 × Int32 × Int32 × Int32
def wX7 (G : zG) (ad : Nat → Nat) (b : Nat) (u : tX7) : va_W := [(ad b, .inr (8, [.ref (ad (b + 1)), .ref (ad (b + 2)), .ref (ad (b + 3)), .int u.2.2.2.1, .ref (ad (b + 4)), .int u.2.2.2.2.2.1, .int u.2.2.2.2.2.2.1, .int u.2.2.2.2.2.2.2.1, .int u.2.2.2.2.2.2.2.2.1, .int u.2.2.2.2.2.2.2.2.2.1, .int u.2.2.2.2.2.2.2.2.2.2])), (ad (b + 1), .inl (G.1.1, 104, .inl u.1)), (ad (b + 2), .inl (G.1.1, 104, .inl u.2.1)), (ad (b + 3), .inl (G.1.1, 624, .inl u.2.2.1)), (ad (b + 4), .inl (G.1.1, 80, .inl u.2.2.2.2.1))]
end
section
noncomputable def q_J9_floorMod_7cf53 (p0 : Int32) (p1 : Int32) : Option (Int32) :=
  zq (¬ p1 = 0) ((if 0 ≤ (p0 ^^^ p1) then some ((p0 - p0 / p1 * p1)) else (if (p0 - p0 / p1 * p1) = 0 then some ((p0 - p0 / p1 * p1)) else some (((p0 - p0 / p1 * p1) + p1)))))
set_option maxRecDepth 100000 in
set_option maxHeartbeats 4000000 in
theorem c_J9_floorMod_7cf53 (l : Launch) (D : va_G) (G : zG)  (p0 : Int32) (p1 : Int32) (res : Int32) (hf : q_J9_floorMod_7cf53 p0 p1 = some res) : zMi l yJ9_floorMod_7cf53 cJ9_floorMod_7cf53 3 (some .int) 0 0 D G (([] : va_W)) (([] : va_W)) [.int p0, .int p1] res := by
  refine zs_i (by decide +kernel) (Nat.le_of_ble_eq_true rfl) ?_
  intro p e s m args below meth c A Q H ls C0 hret hP hD hS hl
  obtain ⟨hx, hb, hml, hown, hW, hK, hlocks, hF, hr, hA⟩ := id C0
  replace hl : lv_has ls 3 [(0, .int p0), (1, .int p1)] := hl
  unfold q_J9_floorMod_7cf53 at hf
  refine lv_iload_n hx hb dJ9_floorMod_7cf53_0 rfl (lv_at hl 0 rfl) ?_
  refine lv_iload_n hx hb dJ9_floorMod_7cf53_1 rfl (lv_at hl 1 rfl) ?_
  replace hf := zq_s hf
  obtain ⟨hq, hf⟩ := hf
  refine lv_irem hx hb dJ9_floorMod_7cf53_2 hq ?_
  refine lv_istore_n (lv' := [(2, .int (p0 - p0 / p1 * p1)), (0, .int p0), (1, .int p1)]) hx hb dJ9_floorMod_7cf53_3 rfl hl (by decide) rfl (fun ls hl => ?_)
  refine lv_iload_n hx hb dJ9_floorMod_7cf53_4 rfl (lv_at hl 1 rfl) ?_
  refine lv_iload_n hx hb dJ9_floorMod_7cf53_5 rfl (lv_at hl 2 rfl) ?_
  refine lv_ixor hx hb dJ9_floorMod_7cf53_6 ?_
  refine lv_if_ge (tgt := 18) hx hb dJ9_floorMod_7cf53_7 (by decide) (fun c7 => ?_) (fun c7 => ?_)
  · replace hf := zi_p hf c7
    refine lv_iload_n hx hb dJ9_floorMod_7cf53_18 rfl (lv_at hl 0 rfl) ?_
    obtain rfl := zo hf
    exact hret _ _ _ _ _ hP hD hS rfl dJ9_floorMod_7cf53_19
  · replace hf := zi_n hf c7
    refine lv_iload_n hx hb dJ9_floorMod_7cf53_10 rfl (lv_at hl 0 rfl) ?_
    refine lv_if_eq (tgt := 18) hx hb dJ9_floorMod_7cf53_11 (by decide) (fun c11 => ?_) (fun c11 => ?_)
    · replace hf := zi_p hf c11
      refine lv_iload_n hx hb dJ9_floorMod_7cf53_18 rfl (lv_at hl 0 rfl) ?_
      obtain rfl := zo hf
      exact hret _ _ _ _ _ hP hD hS rfl dJ9_floorMod_7cf53_19
    · replace hf := zi_n hf c11
      refine lv_iload_n hx hb dJ9_floorMod_7cf53_14 rfl (lv_at hl 0 rfl) ?_
      refine lv_iload_n hx hb dJ9_floorMod_7cf53_15 rfl (lv_at hl 2 rfl) ?_
      refine lv_iadd hx hb dJ9_floorMod_7cf53_16 ?_
      obtain rfl := zo hf
      exact hret _ _ _ _ _ hP hD hS rfl dJ9_floorMod_7cf53_17
noncomputable def q_X6_isSpan (p0 : Int32) : Option (Int32) :=
  (if p0 < 0 then some (0) else (if 8 ≤ p0 then some (0) else some (1)))
set_option maxRecDepth 100000 in
set_option maxHeartbeats 4000000 in
theorem c_X6_isSpan (l : Launch) (D : va_G) (G : zG)  (p0 : Int32) (res : Int32) (hf : q_X6_isSpan p0 = some res) : zMi l yX6_isSpan cX6_isSpan 1 (some .boolean) 0 0 D G (([] : va_W)) (([] : va_W)) [.int p0] res := by
  refine zs_z (plainFor_of_name (by decide)) (Nat.le_of_ble_eq_true rfl) ?_
  intro p e s m args below meth c A Q H ls C0 hret hP hD hS hl
  obtain ⟨hx, hb, hml, hown, hW, hK, hlocks, hF, hr, hA⟩ := id C0
  replace hl : lv_has ls 1 [(0, .int p0)] := hl
  unfold q_X6_isSpan at hf
  refine lv_iload_n hx hb dX6_isSpan_0 rfl (lv_at hl 0 rfl) ?_
  refine lv_if_lt (tgt := 14) hx hb dX6_isSpan_1 (by decide) (fun c1 => ?_) (fun c1 => ?_)
  · replace hf := zi_p hf c1
    refine lv_iconst (v := 0) hx hb dX6_isSpan_14 (by decide) ?_
    obtain rfl := zo hf
    exact hret _ _ _ _ _ hP hD hS rfl rfl dX6_isSpan_15
  · replace hf := zi_n hf c1
    refine lv_iload_n hx hb dX6_isSpan_4 rfl (lv_at hl 0 rfl) ?_
    refine lv_bipush (v := 8) hx hb dX6_isSpan_5 (by decide) ?_
    refine lv_icmp_ge (tgt := 14) hx hb dX6_isSpan_7 (by decide) (fun c7 => ?_) (fun c7 => ?_)
    · replace hf := zi_p hf c7
      refine lv_iconst (v := 0) hx hb dX6_isSpan_14 (by decide) ?_
      obtain rfl := zo hf
      exact hret _ _ _ _ _ hP hD hS rfl rfl dX6_isSpan_15
    · replace hf := zi_n hf c7
      refine lv_iconst (v := 1) hx hb dX6_isSpan_10 (by decide) ?_
      refine lv_goto (tgt := 15) hx hb dX6_isSpan_11 (by decide) ?_
      obtain rfl := zo hf
      exact hret _ _ _ _ _ hP hD hS rfl rfl dX6_isSpan_15
noncomputable def q_X6_isSetting (p0 : Int32) : Option (Int32) :=
  (if p0 < 0 then some (0) else (if 5 ≤ p0 then some (0) else some (1)))
set_option maxRecDepth 100000 in
set_option maxHeartbeats 4000000 in
theorem c_X6_isSetting (l : Launch) (D : va_G) (G : zG)  (p0 : Int32) (res : Int32) (hf : q_X6_isSetting p0 = some res) : zMi l yX6_isSetting cX6_isSetting 1 (some .boolean) 0 0 D G (([] : va_W)) (([] : va_W)) [.int p0] res := by
  refine zs_z (plainFor_of_name (by decide)) (Nat.le_of_ble_eq_true rfl) ?_
  intro p e s m args below meth c A Q H ls C0 hret hP hD hS hl
  obtain ⟨hx, hb, hml, hown, hW, hK, hlocks, hF, hr, hA⟩ := id C0
  replace hl : lv_has ls 1 [(0, .int p0)] := hl
  unfold q_X6_isSetting at hf
  refine lv_iload_n hx hb dX6_isSetting_0 rfl (lv_at hl 0 rfl) ?_
  refine lv_if_lt (tgt := 13) hx hb dX6_isSetting_1 (by decide) (fun c1 => ?_) (fun c1 => ?_)
  · replace hf := zi_p hf c1
    refine lv_iconst (v := 0) hx hb dX6_isSetting_13 (by decide) ?_
    obtain rfl := zo hf
    exact hret _ _ _ _ _ hP hD hS rfl rfl dX6_isSetting_14
  · replace hf := zi_n hf c1
    refine lv_iload_n hx hb dX6_isSetting_4 rfl (lv_at hl 0 rfl) ?_
    refine lv_iconst (v := 5) hx hb dX6_isSetting_5 (by decide) ?_
    refine lv_icmp_ge (tgt := 13) hx hb dX6_isSetting_6 (by decide) (fun c6 => ?_) (fun c6 => ?_)
    · replace hf := zi_p hf c6
      refine lv_iconst (v := 0) hx hb dX6_isSetting_13 (by decide) ?_
      obtain rfl := zo hf
      exact hret _ _ _ _ _ hP hD hS rfl rfl dX6_isSetting_14
    · replace hf := zi_n hf c6
      refine lv_iconst (v := 1) hx hb dX6_isSetting_9 (by decide) ?_
      refine lv_goto (tgt := 14) hx hb dX6_isSetting_10 (by decide) ?_
      obtain rfl := zo hf
      exact hret _ _ _ _ _ hP hD hS rfl rfl dX6_isSetting_14
end
section
noncomputable def q_X5_append (u : tX5) (p1 : Int32) (p2 : Int32) : Option (Int32 × tX5) :=
  (if u.2.2 < 20 then zs 20 u.1 u.2.2 p1 fun s20 => zs 20 u.2.1 u.2.2 p2 fun s30 => zn (u.2.2 + 1) fun k38 => some (1, (s20, s30, k38)) else some (0, u))
set_option maxRecDepth 100000 in
set_option maxHeartbeats 4000000 in
theorem c_X5_append (l : Launch) (D : va_G) (G : zG) (ad : Nat → Nat) (b : Nat) (u : tX5) (p1 : Int32) (p2 : Int32) (res : Int32 × tX5) (hf : q_X5_append u p1 p2 = some res) : zMi l yX5_append cX5_append 3 (some .boolean) 0 0 D G (wX5 G ad b u) (wX5 G ad b res.2) [.ref (ad b), .int p1, .int p2] res.1 := by
  refine zs_z (plainFor_of_name (by decide)) (Nat.le_of_ble_eq_true rfl) ?_
  intro p e s m args below meth c A Q H ls C0 hret hP hD hS hl
  obtain ⟨hx, hb, hml, hown, hW, hK, hlocks, hF, hr, hA⟩ := id C0
  replace hl : lv_has ls 3 [(0, .ref (ad b)), (1, .int p1), (2, .int p2)] := hl
  unfold q_X5_append at hf
  refine lv_aload_n hx hb dX5_append_0 rfl (lv_at hl 0 rfl) ?_
  refine va_get (D := D) (ci := 6) (v := .int u.2.2) (C := RX5) (T := TX5) (N := 3) hx hb hW inlX5 hown hK hP 0 rfl rfl 2 (by decide) (hW _ wd_69) (fun _ h9 => h9) rfl dX5_append_1 ?_
  refine lv_bipush (v := 20) hx hb dX5_append_4 (by decide) ?_
  refine lv_icmp_lt (tgt := 11) hx hb dX5_append_6 (by decide) (fun c6 => ?_) (fun c6 => ?_)
  · replace hf := zi_p hf c6
    refine lv_aload_n hx hb dX5_append_11 rfl (lv_at hl 0 rfl) ?_
    refine va_get (D := D) (ci := 6) (v := .ref (ad (b + 1))) (C := RX5) (T := TX5) (N := 3) hx hb hW inlX5 hown hK hP 0 rfl rfl 0 (by decide) (hW _ wd_67) (fun _ h9 => h9) rfl dX5_append_12 ?_
    refine lv_aload_n hx hb dX5_append_15 rfl (lv_at hl 0 rfl) ?_
    refine va_get (D := D) (ci := 6) (v := .int u.2.2) (C := RX5) (T := TX5) (N := 3) hx hb hW inlX5 hown hK hP 0 rfl rfl 2 (by decide) (hW _ wd_69) (fun _ h9 => h9) rfl dX5_append_16 ?_
    refine lv_iload_n hx hb dX5_append_19 rfl (lv_at hl 1 rfl) ?_
    replace hf := zs_s hf
    obtain ⟨hi20, s20, es20, hf⟩ := hf
    refine z_iast (ws' := wX5 G ad b (s20, u.2.1, u.2.2)) hx hb hK hP hD hS 1 0 rfl rfl hi20 es20 rfl dX5_append_20 (fun H locs hP hD hS => ?_)
    refine lv_aload_n hx hb dX5_append_21 rfl (lv_at hl 0 rfl) ?_
    refine va_get (D := D) (ci := 6) (v := .ref (ad (b + 2))) (C := RX5) (T := TX5) (N := 3) hx hb hW inlX5 hown hK hP 0 rfl rfl 1 (by decide) (hW _ wd_68) (fun _ h9 => h9) rfl dX5_append_22 ?_
    refine lv_aload_n hx hb dX5_append_25 rfl (lv_at hl 0 rfl) ?_
    refine va_get (D := D) (ci := 6) (v := .int u.2.2) (C := RX5) (T := TX5) (N := 3) hx hb hW inlX5 hown hK hP 0 rfl rfl 2 (by decide) (hW _ wd_69) (fun _ h9 => h9) rfl dX5_append_26 ?_
    refine lv_iload_n hx hb dX5_append_29 rfl (lv_at hl 2 rfl) ?_
    replace hf := zs_s hf
    obtain ⟨hi30, s30, es30, hf⟩ := hf
    refine z_iast (ws' := wX5 G ad b (s20, s30, u.2.2)) hx hb hK hP hD hS 2 0 rfl rfl hi30 es30 rfl dX5_append_30 (fun H locs hP hD hS => ?_)
    refine lv_aload_n hx hb dX5_append_31 rfl (lv_at hl 0 rfl) ?_
    refine lv_dup hx hb dX5_append_32 rfl ?_
    refine va_get (D := D) (ci := 6) (v := .int u.2.2) (C := RX5) (T := TX5) (N := 3) hx hb hW inlX5 hown hK hP 0 rfl rfl 2 (by decide) (hW _ wd_69) (fun _ h9 => h9) rfl dX5_append_33 ?_
    refine lv_iconst (v := 1) hx hb dX5_append_36 (by decide) ?_
    refine lv_iadd hx hb dX5_append_37 ?_
    replace hf := zn_s hf
    obtain ⟨k38, ek38, hf⟩ := hf
    refine z_top ek38 ?_
    refine z_put (ws' := wX5 G ad b (s20, s30, k38)) (ci := 6) (C := RX5) (T := TX5) (N := 3) hx hb hW inlX5 tyX5 tyX5_ok nmX5 hown hK hP hD hS 0 rfl rfl 2 (by decide) (hW _ wd_69) rfl rfl (Nat.le_of_ble_eq_true rfl) rfl dX5_append_38 (fun H locs hP hD hS => ?_)
    refine lv_iconst (v := 1) hx hb dX5_append_41 (by decide) ?_
    obtain rfl := zo hf
    exact hret _ _ _ _ _ hP hD hS rfl rfl dX5_append_42
  · replace hf := zi_n hf c6
    refine lv_iconst (v := 0) hx hb dX5_append_9 (by decide) ?_
    obtain rfl := zo hf
    exact hret _ _ _ _ _ hP hD hS rfl rfl dX5_append_10
noncomputable def q_X5_sizeOf_L4 (u : tX5) (p1 : Int32) (v4 : Int32 × Int32) : Option ((Int32 × Int32) ⊕ (Int32)) :=
  (if u.2.2 ≤ v4.2 then some (Sum.inr (v4.1)) else zg 20 u.1 v4.2 fun a17 => (if a17 = p1 then some (Sum.inl ((v4.1 + 1), (v4.2 + 1))) else some (Sum.inl (v4.1, (v4.2 + 1)))))
noncomputable def q_X5_sizeOf (u : tX5) (p1 : Int32) : Option (Int32) :=
  zb (zl 1000000 (q_X5_sizeOf_L4 u p1) (0, 0)) (fun b4 => some (b4))
set_option maxRecDepth 100000 in
set_option maxHeartbeats 4000000 in
theorem c_X5_sizeOf (l : Launch) (D : va_G) (G : zG) (ad : Nat → Nat) (b : Nat) (u : tX5) (p1 : Int32) (res : Int32) (hf : q_X5_sizeOf u p1 = some res) : zMi l yX5_sizeOf cX5_sizeOf 4 (some .int) 0 0 D G (wX5 G ad b u) (wX5 G ad b u) [.ref (ad b), .int p1] res := by
  refine zs_i (plainFor_of_name (by decide)) (Nat.le_of_ble_eq_true rfl) ?_
  intro p e s m args below meth c A Q H ls C0 hret hP hD hS hl
  obtain ⟨hx, hb, hml, hown, hW, hK, hlocks, hF, hr, hA⟩ := id C0
  replace hl : lv_has ls 4 [(0, .ref (ad b)), (1, .int p1)] := hl
  unfold q_X5_sizeOf at hf
  refine lv_iconst (v := 0) hx hb dX5_sizeOf_0 (by decide) ?_
  refine lv_istore_n (lv' := [(2, .int 0), (0, .ref (ad b)), (1, .int p1)]) hx hb dX5_sizeOf_1 rfl hl (by decide) rfl (fun ls hl => ?_)
  refine lv_iconst (v := 0) hx hb dX5_sizeOf_2 (by decide) ?_
  refine lv_istore_n (lv' := [(3, .int 0), (2, .int 0), (0, .ref (ad b)), (1, .int p1)]) hx hb dX5_sizeOf_3 rfl hl (by decide) rfl (fun ls hl => ?_)
  replace hf := zb_s hf
  obtain ⟨b4, hz4, hk4⟩ := hf
  have L4 : ∀ (n4 : Nat) (v4 : Int32 × Int32) (hz4 : zl n4 (q_X5_sizeOf_L4 u p1) v4 = some b4) (H : Heap) (locs : List Loc) (hP : va_P D vwCl (wX5 G ad b u) H) (hD : va_D A (wX5 G ad b u)) (hS : va_S A s.heap H locs) (ls : Array Slot) (hl : lv_has ls 4 [(0, .ref (ad b)), (1, .int p1), (2, .int v4.1), (3, .int v4.2)]), W p l e (zRm 0 0) s m args below meth c H locs 0 0 Q (F0 m 4 ls []) := by
    intro n4
    induction n4 with
    | zero => intro v4 hz4; exact (zl_0 hz4).elim
    | succ n4 ih4 =>
      intro v4 hz4 H locs hP hD hS ls hl
      obtain ⟨o4, hf, hz4⟩ := zl_s hz4
      unfold q_X5_sizeOf_L4 at hf
      refine lv_iload_n hx hb dX5_sizeOf_4 rfl (lv_at hl 3 rfl) ?_
      refine lv_aload_n hx hb dX5_sizeOf_5 rfl (lv_at hl 0 rfl) ?_
      refine va_get (D := D) (ci := 6) (v := .int u.2.2) (C := RX5) (T := TX5) (N := 3) hx hb hW inlX5 hown hK hP 0 rfl rfl 2 (by decide) (hW _ wd_69) (fun _ h9 => h9) rfl dX5_sizeOf_6 ?_
      refine lv_icmp_ge (tgt := 31) hx hb dX5_sizeOf_9 (by decide) (fun c9 => ?_) (fun c9 => ?_)
      · replace hf := zi_p hf c9
        have hb4 := zk_r hf hz4
        subst hb4
        replace hf := hk4
        refine lv_iload_n hx hb dX5_sizeOf_31 rfl (lv_at hl 2 rfl) ?_
        obtain rfl := zo hf
        exact hret _ _ _ _ _ hP hD hS rfl dX5_sizeOf_32
      · replace hf := zi_n hf c9
        refine lv_aload_n hx hb dX5_sizeOf_12 rfl (lv_at hl 0 rfl) ?_
        refine va_get (D := D) (ci := 6) (v := .ref (ad (b + 1))) (C := RX5) (T := TX5) (N := 3) hx hb hW inlX5 hown hK hP 0 rfl rfl 0 (by decide) (hW _ wd_67) (fun _ h9 => h9) rfl dX5_sizeOf_13 ?_
        refine lv_iload_n hx hb dX5_sizeOf_16 rfl (lv_at hl 3 rfl) ?_
        replace hf := zg_s hf
        obtain ⟨hi17, a17, ea17, hf⟩ := hf
        refine z_iald hx hb hK hP 1 0 rfl rfl hi17 ea17 dX5_sizeOf_17 ?_
        refine lv_iload_n hx hb dX5_sizeOf_18 rfl (lv_at hl 1 rfl) ?_
        refine lv_icmp_ne (tgt := 25) hx hb dX5_sizeOf_19 (by decide) (fun c19 => ?_) (fun c19 => ?_)
        · replace hf := zi_n hf c19
          refine lv_iinc (v := (v4.2 + 1)) (lv' := [(3, .int (v4.2 + 1)), (0, .ref (ad b)), (1, .int p1), (2, .int v4.1)]) hx hb dX5_sizeOf_25 hl (k := 3) rfl rfl (by decide) rfl (fun ls hl => ?_)
          refine lv_goto (tgt := 4) hx hb dX5_sizeOf_28 (by decide) ?_
          exact ih4 _ (zk_l hf hz4) _ _ hP hD hS _ (lv_sub hl [1, 2, 3, 0] rfl)
        · replace hf := zi_p hf c19
          refine lv_iinc (v := (v4.1 + 1)) (lv' := [(2, .int (v4.1 + 1)), (0, .ref (ad b)), (1, .int p1), (3, .int v4.2)]) hx hb dX5_sizeOf_22 hl (k := 2) rfl rfl (by decide) rfl (fun ls hl => ?_)
          refine lv_iinc (v := (v4.2 + 1)) (lv' := [(3, .int (v4.2 + 1)), (2, .int (v4.1 + 1)), (0, .ref (ad b)), (1, .int p1)]) hx hb dX5_sizeOf_25 hl (k := 3) rfl rfl (by decide) rfl (fun ls hl => ?_)
          refine lv_goto (tgt := 4) hx hb dX5_sizeOf_28 (by decide) ?_
          exact ih4 _ (zk_l hf hz4) _ _ hP hD hS _ (lv_sub hl [2, 3, 1, 0] rfl)
  exact L4 _ _ hz4 _ _ hP hD hS _ (lv_sub hl [2, 3, 1, 0] rfl)
noncomputable def q_X5_sumOf_L5 (u : tX5) (p1 : Int32) (p2 : Int32) (v5 : Int32 × Int32) : Option ((Int32 × Int32) ⊕ (Int32)) :=
  (if u.2.2 ≤ v5.2 then some (Sum.inr (v5.1)) else zg 20 u.1 v5.2 fun a20 => (if a20 = p1 then zg 20 u.2.1 v5.2 fun a32 => zn (if p2 < a32 then p2 else a32) fun k34 => some (Sum.inl ((v5.1 + k34), (v5.2 + 1))) else some (Sum.inl (v5.1, (v5.2 + 1)))))
noncomputable def q_X5_sumOf (u : tX5) (p1 : Int32) (p2 : Int32) : Option (Int32) :=
  zb (zl 1000000 (q_X5_sumOf_L5 u p1 p2) (0, 0)) (fun b5 => some (b5))
set_option maxRecDepth 100000 in
set_option maxHeartbeats 4000000 in
theorem c_X5_sumOf (l : Launch) (D : va_G) (G : zG) (ad : Nat → Nat) (b : Nat) (u : tX5) (p1 : Int32) (p2 : Int32) (res : Int32) (hf : q_X5_sumOf u p1 p2 = some res) : zMi l yX5_sumOf cX5_sumOf 5 (some .int) 1 32 D G (wX5 G ad b u) (wX5 G ad b u) [.ref (ad b), .int p1, .int p2] res := by
  refine zs_i (plainFor_of_name (by decide)) (Nat.le_of_ble_eq_true rfl) ?_
  intro p e s m args below meth c A Q H ls C0 hret hP hD hS hl
  obtain ⟨hx, hb, hml, hown, hW, hK, hlocks, hF, hr, hA⟩ := id C0
  replace hl : lv_has ls 5 [(0, .ref (ad b)), (1, .int p1), (2, .int p2)] := hl
  unfold q_X5_sumOf at hf
  refine lv_iconst (v := 0) hx hb dX5_sumOf_0 (by decide) ?_
  refine lv_istore_n (lv' := [(3, .int 0), (0, .ref (ad b)), (1, .int p1), (2, .int p2)]) hx hb dX5_sumOf_1 rfl hl (by decide) rfl (fun ls hl => ?_)
  refine lv_iconst (v := 0) hx hb dX5_sumOf_2 (by decide) ?_
  refine lv_istore (lv' := [(4, .int 0), (3, .int 0), (0, .ref (ad b)), (1, .int p1), (2, .int p2)]) hx hb dX5_sumOf_3 hl (by decide) rfl (fun ls hl => ?_)
  replace hf := zb_s hf
  obtain ⟨b5, hz5, hk5⟩ := hf
  have L5 : ∀ (n5 : Nat) (v5 : Int32 × Int32) (hz5 : zl n5 (q_X5_sumOf_L5 u p1 p2) v5 = some b5) (H : Heap) (locs : List Loc) (hP : va_P D vwCl (wX5 G ad b u) H) (hD : va_D A (wX5 G ad b u)) (hS : va_S A s.heap H locs) (ls : Array Slot) (hl : lv_has ls 5 [(0, .ref (ad b)), (1, .int p1), (2, .int p2), (3, .int v5.1), (4, .int v5.2)]), W p l e (zRm 1 32) s m args below meth c H locs 0 0 Q (F0 m 5 ls []) := by
    intro n5
    induction n5 with
    | zero => intro v5 hz5; exact (zl_0 hz5).elim
    | succ n5 ih5 =>
      intro v5 hz5 H locs hP hD hS ls hl
      obtain ⟨o5, hf, hz5⟩ := zl_s hz5
      unfold q_X5_sumOf_L5 at hf
      refine lv_iload hx hb dX5_sumOf_5 (lv_at hl 4 rfl) ?_
      refine lv_aload_n hx hb dX5_sumOf_7 rfl (lv_at hl 0 rfl) ?_
      refine va_get (D := D) (ci := 6) (v := .int u.2.2) (C := RX5) (T := TX5) (N := 3) hx hb hW inlX5 hown hK hP 0 rfl rfl 2 (by decide) (hW _ wd_69) (fun _ h9 => h9) rfl dX5_sumOf_8 ?_
      refine lv_icmp_ge (tgt := 45) hx hb dX5_sumOf_11 (by decide) (fun c11 => ?_) (fun c11 => ?_)
      · replace hf := zi_p hf c11
        have hb5 := zk_r hf hz5
        subst hb5
        replace hf := hk5
        refine lv_iload_n hx hb dX5_sumOf_45 rfl (lv_at hl 3 rfl) ?_
        obtain rfl := zo hf
        exact hret _ _ _ _ _ hP hD hS rfl dX5_sumOf_46
      · replace hf := zi_n hf c11
        refine lv_aload_n hx hb dX5_sumOf_14 rfl (lv_at hl 0 rfl) ?_
        refine va_get (D := D) (ci := 6) (v := .ref (ad (b + 1))) (C := RX5) (T := TX5) (N := 3) hx hb hW inlX5 hown hK hP 0 rfl rfl 0 (by decide) (hW _ wd_67) (fun _ h9 => h9) rfl dX5_sumOf_15 ?_
        refine lv_iload hx hb dX5_sumOf_18 (lv_at hl 4 rfl) ?_
        replace hf := zg_s hf
        obtain ⟨hi20, a20, ea20, hf⟩ := hf
        refine z_iald hx hb hK hP 1 0 rfl rfl hi20 ea20 dX5_sumOf_20 ?_
        refine lv_iload_n hx hb dX5_sumOf_21 rfl (lv_at hl 1 rfl) ?_
        refine lv_icmp_ne (tgt := 39) hx hb dX5_sumOf_22 (by decide) (fun c22 => ?_) (fun c22 => ?_)
        · replace hf := zi_n hf c22
          refine lv_iinc (v := (v5.2 + 1)) (lv' := [(4, .int (v5.2 + 1)), (0, .ref (ad b)), (1, .int p1), (2, .int p2), (3, .int v5.1)]) hx hb dX5_sumOf_39 hl (k := 4) rfl rfl (by decide) rfl (fun ls hl => ?_)
          refine lv_goto (tgt := 5) hx hb dX5_sumOf_42 (by decide) ?_
          exact ih5 _ (zk_l hf hz5) _ _ hP hD hS _ (lv_sub hl [1, 2, 3, 4, 0] rfl)
        · replace hf := zi_p hf c22
          refine lv_iload_n hx hb dX5_sumOf_25 rfl (lv_at hl 3 rfl) ?_
          refine lv_aload_n hx hb dX5_sumOf_26 rfl (lv_at hl 0 rfl) ?_
          refine va_get (D := D) (ci := 6) (v := .ref (ad (b + 2))) (C := RX5) (T := TX5) (N := 3) hx hb hW inlX5 hown hK hP 0 rfl rfl 1 (by decide) (hW _ wd_68) (fun _ h9 => h9) rfl dX5_sumOf_27 ?_
          refine lv_iload hx hb dX5_sumOf_30 (lv_at hl 4 rfl) ?_
          replace hf := zg_s hf
          obtain ⟨hi32, a32, ea32, hf⟩ := hf
          refine z_iald hx hb hK hP 2 0 rfl rfl hi32 ea32 dX5_sumOf_32 ?_
          refine lv_iload_n hx hb dX5_sumOf_33 rfl (lv_at hl 2 rfl) ?_
          refine va_mmin hx hb (hml.trans hl.1.symm) hown (hW _ wd_402) (hW _ wd_403) (hW _ wd_334) (hW _ wd_404) (Nat.le_of_ble_eq_true rfl) (Nat.le_of_ble_eq_true rfl) (Nat.zero_le _) (Nat.zero_le _) dX5_sumOf_34 ?_
          replace hf := zn_s hf
          obtain ⟨k34, ek34, hf⟩ := hf
          refine z_top ek34 ?_
          refine lv_iadd hx hb dX5_sumOf_37 ?_
          refine lv_istore_n (lv' := [(3, .int (v5.1 + k34)), (0, .ref (ad b)), (1, .int p1), (2, .int p2), (4, .int v5.2)]) hx hb dX5_sumOf_38 rfl hl (by decide) rfl (fun ls hl => ?_)
          refine lv_iinc (v := (v5.2 + 1)) (lv' := [(4, .int (v5.2 + 1)), (3, .int (v5.1 + k34)), (0, .ref (ad b)), (1, .int p1), (2, .int p2)]) hx hb dX5_sumOf_39 hl (k := 4) rfl rfl (by decide) rfl (fun ls hl => ?_)
          refine lv_goto (tgt := 5) hx hb dX5_sumOf_42 (by decide) ?_
          exact ih5 _ (zk_l hf hz5) _ _ hP hD hS _ (lv_sub hl [2, 3, 4, 1, 0] rfl)
  exact L5 _ _ hz5 _ _ hP hD hS _ (lv_sub hl [2, 3, 4, 1, 0] rfl)
noncomputable def q_X5_triesAt_L5 (u : tX5) (p1 : Int32) (p2 : Int32) (v5 : Int32 × Int32) : Option ((Int32 × Int32) ⊕ (((Unit) ⊕ (Int32)))) :=
  (if u.2.2 ≤ v5.2 then some (Sum.inr (Sum.inl ())) else zg 20 u.1 v5.2 fun a20 => (if a20 = p1 then (if v5.1 = p2 then some (Sum.inr (Sum.inr (v5.2))) else some (Sum.inl ((v5.1 + 1), (v5.2 + 1)))) else some (Sum.inl (v5.1, (v5.2 + 1)))))
noncomputable def q_X5_triesAt (u : tX5) (p1 : Int32) (p2 : Int32) : Option (Int32) :=
  zb (zl 1000000 (q_X5_triesAt_L5 u p1 p2) (0, 0)) (zm (fun e5_0 => some ((-1))) (fun e5_1 => zg 20 u.2.1 e5_1 fun a36 => some (a36)))
set_option maxRecDepth 100000 in
set_option maxHeartbeats 4000000 in
theorem c_X5_triesAt (l : Launch) (D : va_G) (G : zG) (ad : Nat → Nat) (b : Nat) (u : tX5) (p1 : Int32) (p2 : Int32) (res : Int32) (hf : q_X5_triesAt u p1 p2 = some res) : zMi l yX5_triesAt cX5_triesAt 5 (some .int) 0 0 D G (wX5 G ad b u) (wX5 G ad b u) [.ref (ad b), .int p1, .int p2] res := by
  refine zs_i (plainFor_of_name (by decide)) (Nat.le_of_ble_eq_true rfl) ?_
  intro p e s m args below meth c A Q H ls C0 hret hP hD hS hl
  obtain ⟨hx, hb, hml, hown, hW, hK, hlocks, hF, hr, hA⟩ := id C0
  replace hl : lv_has ls 5 [(0, .ref (ad b)), (1, .int p1), (2, .int p2)] := hl
  unfold q_X5_triesAt at hf
  refine lv_iconst (v := 0) hx hb dX5_triesAt_0 (by decide) ?_
  refine lv_istore_n (lv' := [(3, .int 0), (0, .ref (ad b)), (1, .int p1), (2, .int p2)]) hx hb dX5_triesAt_1 rfl hl (by decide) rfl (fun ls hl => ?_)
  refine lv_iconst (v := 0) hx hb dX5_triesAt_2 (by decide) ?_
  refine lv_istore (lv' := [(4, .int 0), (3, .int 0), (0, .ref (ad b)), (1, .int p1), (2, .int p2)]) hx hb dX5_triesAt_3 hl (by decide) rfl (fun ls hl => ?_)
  replace hf := zb_s hf
  obtain ⟨b5, hz5, hk5⟩ := hf
  have L5 : ∀ (n5 : Nat) (v5 : Int32 × Int32) (hz5 : zl n5 (q_X5_triesAt_L5 u p1 p2) v5 = some b5) (H : Heap) (locs : List Loc) (hP : va_P D vwCl (wX5 G ad b u) H) (hD : va_D A (wX5 G ad b u)) (hS : va_S A s.heap H locs) (ls : Array Slot) (hl : lv_has ls 5 [(0, .ref (ad b)), (1, .int p1), (2, .int p2), (3, .int v5.1), (4, .int v5.2)]), W p l e (zRm 0 0) s m args below meth c H locs 0 0 Q (F0 m 5 ls []) := by
    intro n5
    induction n5 with
    | zero => intro v5 hz5; exact (zl_0 hz5).elim
    | succ n5 ih5 =>
      intro v5 hz5 H locs hP hD hS ls hl
      obtain ⟨o5, hf, hz5⟩ := zl_s hz5
      unfold q_X5_triesAt_L5 at hf
      refine lv_iload hx hb dX5_triesAt_5 (lv_at hl 4 rfl) ?_
      refine lv_aload_n hx hb dX5_triesAt_7 rfl (lv_at hl 0 rfl) ?_
      refine va_get (D := D) (ci := 6) (v := .int u.2.2) (C := RX5) (T := TX5) (N := 3) hx hb hW inlX5 hown hK hP 0 rfl rfl 2 (by decide) (hW _ wd_69) (fun _ h9 => h9) rfl dX5_triesAt_8 ?_
      refine lv_icmp_ge (tgt := 47) hx hb dX5_triesAt_11 (by decide) (fun c11 => ?_) (fun c11 => ?_)
      · replace hf := zi_p hf c11
        have hb5 := zk_r hf hz5
        subst hb5
        replace hf := (zm_l hk5)
        refine lv_iconst (v := (-1)) hx hb dX5_triesAt_47 (by decide) ?_
        obtain rfl := zo hf
        exact hret _ _ _ _ _ hP hD hS rfl dX5_triesAt_48
      · replace hf := zi_n hf c11
        refine lv_aload_n hx hb dX5_triesAt_14 rfl (lv_at hl 0 rfl) ?_
        refine va_get (D := D) (ci := 6) (v := .ref (ad (b + 1))) (C := RX5) (T := TX5) (N := 3) hx hb hW inlX5 hown hK hP 0 rfl rfl 0 (by decide) (hW _ wd_67) (fun _ h9 => h9) rfl dX5_triesAt_15 ?_
        refine lv_iload hx hb dX5_triesAt_18 (lv_at hl 4 rfl) ?_
        replace hf := zg_s hf
        obtain ⟨hi20, a20, ea20, hf⟩ := hf
        refine z_iald hx hb hK hP 1 0 rfl rfl hi20 ea20 dX5_triesAt_20 ?_
        refine lv_iload_n hx hb dX5_triesAt_21 rfl (lv_at hl 1 rfl) ?_
        refine lv_icmp_ne (tgt := 41) hx hb dX5_triesAt_22 (by decide) (fun c22 => ?_) (fun c22 => ?_)
        · replace hf := zi_n hf c22
          refine lv_iinc (v := (v5.2 + 1)) (lv' := [(4, .int (v5.2 + 1)), (0, .ref (ad b)), (1, .int p1), (2, .int p2), (3, .int v5.1)]) hx hb dX5_triesAt_41 hl (k := 4) rfl rfl (by decide) rfl (fun ls hl => ?_)
          refine lv_goto (tgt := 5) hx hb dX5_triesAt_44 (by decide) ?_
          exact ih5 _ (zk_l hf hz5) _ _ hP hD hS _ (lv_sub hl [1, 2, 3, 4, 0] rfl)
        · replace hf := zi_p hf c22
          refine lv_iload_n hx hb dX5_triesAt_25 rfl (lv_at hl 3 rfl) ?_
          refine lv_iload_n hx hb dX5_triesAt_26 rfl (lv_at hl 2 rfl) ?_
          refine lv_icmp_ne (tgt := 38) hx hb dX5_triesAt_27 (by decide) (fun c27 => ?_) (fun c27 => ?_)
          · replace hf := zi_n hf c27
            refine lv_iinc (v := (v5.1 + 1)) (lv' := [(3, .int (v5.1 + 1)), (0, .ref (ad b)), (1, .int p1), (2, .int p2), (4, .int v5.2)]) hx hb dX5_triesAt_38 hl (k := 3) rfl rfl (by decide) rfl (fun ls hl => ?_)
            refine lv_iinc (v := (v5.2 + 1)) (lv' := [(4, .int (v5.2 + 1)), (3, .int (v5.1 + 1)), (0, .ref (ad b)), (1, .int p1), (2, .int p2)]) hx hb dX5_triesAt_41 hl (k := 4) rfl rfl (by decide) rfl (fun ls hl => ?_)
            refine lv_goto (tgt := 5) hx hb dX5_triesAt_44 (by decide) ?_
            exact ih5 _ (zk_l hf hz5) _ _ hP hD hS _ (lv_sub hl [2, 3, 4, 1, 0] rfl)
          · replace hf := zi_p hf c27
            have hb5 := zk_r hf hz5
            subst hb5
            replace hf := (zm_r hk5)
            refine lv_aload_n hx hb dX5_triesAt_30 rfl (lv_at hl 0 rfl) ?_
            refine va_get (D := D) (ci := 6) (v := .ref (ad (b + 2))) (C := RX5) (T := TX5) (N := 3) hx hb hW inlX5 hown hK hP 0 rfl rfl 1 (by decide) (hW _ wd_68) (fun _ h9 => h9) rfl dX5_triesAt_31 ?_
            refine lv_iload hx hb dX5_triesAt_34 (lv_at hl 4 rfl) ?_
            replace hf := zg_s hf
            obtain ⟨hi36, a36, ea36, hf⟩ := hf
            refine z_iald hx hb hK hP 2 0 rfl rfl hi36 ea36 dX5_triesAt_36 ?_
            obtain rfl := zo hf
            exact hret _ _ _ _ _ hP hD hS rfl dX5_triesAt_37
  exact L5 _ _ hz5 _ _ hP hD hS _ (lv_sub hl [2, 3, 4, 1, 0] rfl)
noncomputable def q_X5_hasWeak_L2 (u : tX5) (p1 : Int32) (p2 : Int32) (v2 : Int32) : Option ((Int32) ⊕ (((Unit) ⊕ (Unit)))) :=
  (if u.2.2 ≤ v2 then some (Sum.inr (Sum.inl ())) else zg 20 u.1 v2 fun a15 => (if a15 = p1 then zg 20 u.2.1 v2 fun a25 => (if a25 < p2 then some (Sum.inl ((v2 + 1))) else some (Sum.inr (Sum.inr ()))) else some (Sum.inl ((v2 + 1)))))
noncomputable def q_X5_hasWeak (u : tX5) (p1 : Int32) (p2 : Int32) : Option (Int32) :=
  zb (zl 1000000 (q_X5_hasWeak_L2 u p1 p2) (0)) (zm (fun e2_0 => some (0)) (fun e2_1 => some (1)))
set_option maxRecDepth 100000 in
set_option maxHeartbeats 4000000 in
theorem c_X5_hasWeak (l : Launch) (D : va_G) (G : zG) (ad : Nat → Nat) (b : Nat) (u : tX5) (p1 : Int32) (p2 : Int32) (res : Int32) (hf : q_X5_hasWeak u p1 p2 = some res) : zMi l yX5_hasWeak cX5_hasWeak 4 (some .boolean) 0 0 D G (wX5 G ad b u) (wX5 G ad b u) [.ref (ad b), .int p1, .int p2] res := by
  refine zs_z (plainFor_of_name (by decide)) (Nat.le_of_ble_eq_true rfl) ?_
  intro p e s m args below meth c A Q H ls C0 hret hP hD hS hl
  obtain ⟨hx, hb, hml, hown, hW, hK, hlocks, hF, hr, hA⟩ := id C0
  replace hl : lv_has ls 4 [(0, .ref (ad b)), (1, .int p1), (2, .int p2)] := hl
  unfold q_X5_hasWeak at hf
  refine lv_iconst (v := 0) hx hb dX5_hasWeak_0 (by decide) ?_
  refine lv_istore_n (lv' := [(3, .int 0), (0, .ref (ad b)), (1, .int p1), (2, .int p2)]) hx hb dX5_hasWeak_1 rfl hl (by decide) rfl (fun ls hl => ?_)
  replace hf := zb_s hf
  obtain ⟨b2, hz2, hk2⟩ := hf
  have L2 : ∀ (n2 : Nat) (v2 : Int32) (hz2 : zl n2 (q_X5_hasWeak_L2 u p1 p2) v2 = some b2) (H : Heap) (locs : List Loc) (hP : va_P D vwCl (wX5 G ad b u) H) (hD : va_D A (wX5 G ad b u)) (hS : va_S A s.heap H locs) (ls : Array Slot) (hl : lv_has ls 4 [(0, .ref (ad b)), (1, .int p1), (2, .int p2), (3, .int v2)]), W p l e (zRm 0 0) s m args below meth c H locs 0 0 Q (F0 m 2 ls []) := by
    intro n2
    induction n2 with
    | zero => intro v2 hz2; exact (zl_0 hz2).elim
    | succ n2 ih2 =>
      intro v2 hz2 H locs hP hD hS ls hl
      obtain ⟨o2, hf, hz2⟩ := zl_s hz2
      unfold q_X5_hasWeak_L2 at hf
      refine lv_iload_n hx hb dX5_hasWeak_2 rfl (lv_at hl 3 rfl) ?_
      refine lv_aload_n hx hb dX5_hasWeak_3 rfl (lv_at hl 0 rfl) ?_
      refine va_get (D := D) (ci := 6) (v := .int u.2.2) (C := RX5) (T := TX5) (N := 3) hx hb hW inlX5 hown hK hP 0 rfl rfl 2 (by decide) (hW _ wd_69) (fun _ h9 => h9) rfl dX5_hasWeak_4 ?_
      refine lv_icmp_ge (tgt := 38) hx hb dX5_hasWeak_7 (by decide) (fun c7 => ?_) (fun c7 => ?_)
      · replace hf := zi_p hf c7
        have hb2 := zk_r hf hz2
        subst hb2
        replace hf := (zm_l hk2)
        refine lv_iconst (v := 0) hx hb dX5_hasWeak_38 (by decide) ?_
        obtain rfl := zo hf
        exact hret _ _ _ _ _ hP hD hS rfl rfl dX5_hasWeak_39
      · replace hf := zi_n hf c7
        refine lv_aload_n hx hb dX5_hasWeak_10 rfl (lv_at hl 0 rfl) ?_
        refine va_get (D := D) (ci := 6) (v := .ref (ad (b + 1))) (C := RX5) (T := TX5) (N := 3) hx hb hW inlX5 hown hK hP 0 rfl rfl 0 (by decide) (hW _ wd_67) (fun _ h9 => h9) rfl dX5_hasWeak_11 ?_
        refine lv_iload_n hx hb dX5_hasWeak_14 rfl (lv_at hl 3 rfl) ?_
        replace hf := zg_s hf
        obtain ⟨hi15, a15, ea15, hf⟩ := hf
        refine z_iald hx hb hK hP 1 0 rfl rfl hi15 ea15 dX5_hasWeak_15 ?_
        refine lv_iload_n hx hb dX5_hasWeak_16 rfl (lv_at hl 1 rfl) ?_
        refine lv_icmp_ne (tgt := 32) hx hb dX5_hasWeak_17 (by decide) (fun c17 => ?_) (fun c17 => ?_)
        · replace hf := zi_n hf c17
          refine lv_iinc (v := (v2 + 1)) (lv' := [(3, .int (v2 + 1)), (0, .ref (ad b)), (1, .int p1), (2, .int p2)]) hx hb dX5_hasWeak_32 hl (k := 3) rfl rfl (by decide) rfl (fun ls hl => ?_)
          refine lv_goto (tgt := 2) hx hb dX5_hasWeak_35 (by decide) ?_
          exact ih2 _ (zk_l hf hz2) _ _ hP hD hS _ (lv_sub hl [1, 2, 3, 0] rfl)
        · replace hf := zi_p hf c17
          refine lv_aload_n hx hb dX5_hasWeak_20 rfl (lv_at hl 0 rfl) ?_
          refine va_get (D := D) (ci := 6) (v := .ref (ad (b + 2))) (C := RX5) (T := TX5) (N := 3) hx hb hW inlX5 hown hK hP 0 rfl rfl 1 (by decide) (hW _ wd_68) (fun _ h9 => h9) rfl dX5_hasWeak_21 ?_
          refine lv_iload_n hx hb dX5_hasWeak_24 rfl (lv_at hl 3 rfl) ?_
          replace hf := zg_s hf
          obtain ⟨hi25, a25, ea25, hf⟩ := hf
          refine z_iald hx hb hK hP 2 0 rfl rfl hi25 ea25 dX5_hasWeak_25 ?_
          refine lv_iload_n hx hb dX5_hasWeak_26 rfl (lv_at hl 2 rfl) ?_
          refine lv_icmp_lt (tgt := 32) hx hb dX5_hasWeak_27 (by decide) (fun c27 => ?_) (fun c27 => ?_)
          · replace hf := zi_p hf c27
            refine lv_iinc (v := (v2 + 1)) (lv' := [(3, .int (v2 + 1)), (0, .ref (ad b)), (1, .int p1), (2, .int p2)]) hx hb dX5_hasWeak_32 hl (k := 3) rfl rfl (by decide) rfl (fun ls hl => ?_)
            refine lv_goto (tgt := 2) hx hb dX5_hasWeak_35 (by decide) ?_
            exact ih2 _ (zk_l hf hz2) _ _ hP hD hS _ (lv_sub hl [1, 2, 3, 0] rfl)
          · replace hf := zi_n hf c27
            have hb2 := zk_r hf hz2
            subst hb2
            replace hf := (zm_r hk2)
            refine lv_iconst (v := 1) hx hb dX5_hasWeak_30 (by decide) ?_
            obtain rfl := zo hf
            exact hret _ _ _ _ _ hP hD hS rfl rfl dX5_hasWeak_31
  exact L2 _ _ hz2 _ _ hP hD hS _ (lv_sub hl [1, 2, 3, 0] rfl)
end
section
noncomputable def q_X0_placeOf_L2 (u : tX0) (p1 : Int32) (v2 : Int32) : Option ((Int32) ⊕ (((Unit) ⊕ (Int32)))) :=
  (if u.2 ≤ v2 then some (Sum.inr (Sum.inl ())) else zg 6 u.1 v2 fun a15 => (if a15 = p1 then some (Sum.inr (Sum.inr (v2))) else some (Sum.inl ((v2 + 1)))))
noncomputable def q_X0_placeOf (u : tX0) (p1 : Int32) : Option (Int32) :=
  zb (zl 1000000 (q_X0_placeOf_L2 u p1) (0)) (zm (fun e2_0 => some ((-6))) (fun e2_1 => some (e2_1)))
set_option maxRecDepth 100000 in
set_option maxHeartbeats 4000000 in
theorem c_X0_placeOf (l : Launch) (D : va_G) (G : zG) (ad : Nat → Nat) (b : Nat) (u : tX0) (p1 : Int32) (res : Int32) (hf : q_X0_placeOf u p1 = some res) : zMi l yX0_placeOf cX0_placeOf 3 (some .int) 0 0 D G (wX0 G ad b u) (wX0 G ad b u) [.ref (ad b), .int p1] res := by
  refine zs_i (plainFor_of_name (by decide)) (Nat.le_of_ble_eq_true rfl) ?_
  intro p e s m args below meth c A Q H ls C0 hret hP hD hS hl
  obtain ⟨hx, hb, hml, hown, hW, hK, hlocks, hF, hr, hA⟩ := id C0
  replace hl : lv_has ls 3 [(0, .ref (ad b)), (1, .int p1)] := hl
  unfold q_X0_placeOf at hf
  refine lv_iconst (v := 0) hx hb dX0_placeOf_0 (by decide) ?_
  refine lv_istore_n (lv' := [(2, .int 0), (0, .ref (ad b)), (1, .int p1)]) hx hb dX0_placeOf_1 rfl hl (by decide) rfl (fun ls hl => ?_)
  replace hf := zb_s hf
  obtain ⟨b2, hz2, hk2⟩ := hf
  have L2 : ∀ (n2 : Nat) (v2 : Int32) (hz2 : zl n2 (q_X0_placeOf_L2 u p1) v2 = some b2) (H : Heap) (locs : List Loc) (hP : va_P D vwCl (wX0 G ad b u) H) (hD : va_D A (wX0 G ad b u)) (hS : va_S A s.heap H locs) (ls : Array Slot) (hl : lv_has ls 3 [(0, .ref (ad b)), (1, .int p1), (2, .int v2)]), W p l e (zRm 0 0) s m args below meth c H locs 0 0 Q (F0 m 2 ls []) := by
    intro n2
    induction n2 with
    | zero => intro v2 hz2; exact (zl_0 hz2).elim
    | succ n2 ih2 =>
      intro v2 hz2 H locs hP hD hS ls hl
      obtain ⟨o2, hf, hz2⟩ := zl_s hz2
      unfold q_X0_placeOf_L2 at hf
      refine lv_iload_n hx hb dX0_placeOf_2 rfl (lv_at hl 2 rfl) ?_
      refine lv_aload_n hx hb dX0_placeOf_3 rfl (lv_at hl 0 rfl) ?_
      refine va_get (D := D) (ci := 1) (v := .int u.2) (C := RX0) (T := TX0) (N := 2) hx hb hW inlX0 hown hK hP 0 rfl rfl 1 (by decide) (hW _ wd_74) (fun _ h9 => h9) rfl dX0_placeOf_4 ?_
      refine lv_icmp_ge (tgt := 28) hx hb dX0_placeOf_7 (by decide) (fun c7 => ?_) (fun c7 => ?_)
      · replace hf := zi_p hf c7
        have hb2 := zk_r hf hz2
        subst hb2
        replace hf := (zm_l hk2)
        refine lv_bipush (v := (-6)) hx hb dX0_placeOf_28 (by decide) ?_
        obtain rfl := zo hf
        exact hret _ _ _ _ _ hP hD hS rfl dX0_placeOf_30
      · replace hf := zi_n hf c7
        refine lv_aload_n hx hb dX0_placeOf_10 rfl (lv_at hl 0 rfl) ?_
        refine va_get (D := D) (ci := 1) (v := .ref (ad (b + 1))) (C := RX0) (T := TX0) (N := 2) hx hb hW inlX0 hown hK hP 0 rfl rfl 0 (by decide) (hW _ wd_73) (fun _ h9 => h9) rfl dX0_placeOf_11 ?_
        refine lv_iload_n hx hb dX0_placeOf_14 rfl (lv_at hl 2 rfl) ?_
        replace hf := zg_s hf
        obtain ⟨hi15, a15, ea15, hf⟩ := hf
        refine z_iald hx hb hK hP 1 0 rfl rfl hi15 ea15 dX0_placeOf_15 ?_
        refine lv_iload_n hx hb dX0_placeOf_16 rfl (lv_at hl 1 rfl) ?_
        refine lv_icmp_ne (tgt := 22) hx hb dX0_placeOf_17 (by decide) (fun c17 => ?_) (fun c17 => ?_)
        · replace hf := zi_n hf c17
          refine lv_iinc (v := (v2 + 1)) (lv' := [(2, .int (v2 + 1)), (0, .ref (ad b)), (1, .int p1)]) hx hb dX0_placeOf_22 hl (k := 2) rfl rfl (by decide) rfl (fun ls hl => ?_)
          refine lv_goto (tgt := 2) hx hb dX0_placeOf_25 (by decide) ?_
          exact ih2 _ (zk_l hf hz2) _ _ hP hD hS _ (lv_sub hl [1, 2, 0] rfl)
        · replace hf := zi_p hf c17
          have hb2 := zk_r hf hz2
          subst hb2
          replace hf := (zm_r hk2)
          refine lv_iload_n hx hb dX0_placeOf_20 rfl (lv_at hl 2 rfl) ?_
          obtain rfl := zo hf
          exact hret _ _ _ _ _ hP hD hS rfl dX0_placeOf_21
  exact L2 _ _ hz2 _ _ hP hD hS _ (lv_sub hl [1, 2, 0] rfl)
noncomputable def q_X0_append (u : tX0) (p1 : Int32) : Option (Int32 × tX0) :=
  (if u.2 < 6 then zs 6 u.1 u.2 p1 fun s20 => zn (u.2 + 1) fun k28 => some (1, (s20, k28)) else some (0, u))
set_option maxRecDepth 100000 in
set_option maxHeartbeats 4000000 in
theorem c_X0_append (l : Launch) (D : va_G) (G : zG) (ad : Nat → Nat) (b : Nat) (u : tX0) (p1 : Int32) (res : Int32 × tX0) (hf : q_X0_append u p1 = some res) : zMi l yX0_append cX0_append 2 (some .boolean) 0 0 D G (wX0 G ad b u) (wX0 G ad b res.2) [.ref (ad b), .int p1] res.1 := by
  refine zs_z (plainFor_of_name (by decide)) (Nat.le_of_ble_eq_true rfl) ?_
  intro p e s m args below meth c A Q H ls C0 hret hP hD hS hl
  obtain ⟨hx, hb, hml, hown, hW, hK, hlocks, hF, hr, hA⟩ := id C0
  replace hl : lv_has ls 2 [(0, .ref (ad b)), (1, .int p1)] := hl
  unfold q_X0_append at hf
  refine lv_aload_n hx hb dX0_append_0 rfl (lv_at hl 0 rfl) ?_
  refine va_get (D := D) (ci := 1) (v := .int u.2) (C := RX0) (T := TX0) (N := 2) hx hb hW inlX0 hown hK hP 0 rfl rfl 1 (by decide) (hW _ wd_74) (fun _ h9 => h9) rfl dX0_append_1 ?_
  refine lv_bipush (v := 6) hx hb dX0_append_4 (by decide) ?_
  refine lv_icmp_lt (tgt := 11) hx hb dX0_append_6 (by decide) (fun c6 => ?_) (fun c6 => ?_)
  · replace hf := zi_p hf c6
    refine lv_aload_n hx hb dX0_append_11 rfl (lv_at hl 0 rfl) ?_
    refine va_get (D := D) (ci := 1) (v := .ref (ad (b + 1))) (C := RX0) (T := TX0) (N := 2) hx hb hW inlX0 hown hK hP 0 rfl rfl 0 (by decide) (hW _ wd_73) (fun _ h9 => h9) rfl dX0_append_12 ?_
    refine lv_aload_n hx hb dX0_append_15 rfl (lv_at hl 0 rfl) ?_
    refine va_get (D := D) (ci := 1) (v := .int u.2) (C := RX0) (T := TX0) (N := 2) hx hb hW inlX0 hown hK hP 0 rfl rfl 1 (by decide) (hW _ wd_74) (fun _ h9 => h9) rfl dX0_append_16 ?_
    refine lv_iload_n hx hb dX0_append_19 rfl (lv_at hl 1 rfl) ?_
    replace hf := zs_s hf
    obtain ⟨hi20, s20, es20, hf⟩ := hf
    refine z_iast (ws' := wX0 G ad b (s20, u.2)) hx hb hK hP hD hS 1 0 rfl rfl hi20 es20 rfl dX0_append_20 (fun H locs hP hD hS => ?_)
    refine lv_aload_n hx hb dX0_append_21 rfl (lv_at hl 0 rfl) ?_
    refine lv_dup hx hb dX0_append_22 rfl ?_
    refine va_get (D := D) (ci := 1) (v := .int u.2) (C := RX0) (T := TX0) (N := 2) hx hb hW inlX0 hown hK hP 0 rfl rfl 1 (by decide) (hW _ wd_74) (fun _ h9 => h9) rfl dX0_append_23 ?_
    refine lv_iconst (v := 1) hx hb dX0_append_26 (by decide) ?_
    refine lv_iadd hx hb dX0_append_27 ?_
    replace hf := zn_s hf
    obtain ⟨k28, ek28, hf⟩ := hf
    refine z_top ek28 ?_
    refine z_put (ws' := wX0 G ad b (s20, k28)) (ci := 1) (C := RX0) (T := TX0) (N := 2) hx hb hW inlX0 tyX0 tyX0_ok nmX0 hown hK hP hD hS 0 rfl rfl 1 (by decide) (hW _ wd_74) rfl rfl (Nat.le_of_ble_eq_true rfl) rfl dX0_append_28 (fun H locs hP hD hS => ?_)
    refine lv_iconst (v := 1) hx hb dX0_append_31 (by decide) ?_
    obtain rfl := zo hf
    exact hret _ _ _ _ _ hP hD hS rfl rfl dX0_append_32
  · replace hf := zi_n hf c6
    refine lv_iconst (v := 0) hx hb dX0_append_9 (by decide) ?_
    obtain rfl := zo hf
    exact hret _ _ _ _ _ hP hD hS rfl rfl dX0_append_10
theorem kX0_25 : zLkV RX0 25 yX0_placeOf cX0_placeOf 3 (some .int) 1 := ⟨⟨wd_310, wd_275, wd_276, wd_42, wd_277⟩, by decide +kernel⟩
noncomputable def q_X0_drop_L18 (u : tX0) (v18 : Int32 × (Nat → Int32)) : Option ((Int32 × (Nat → Int32)) ⊕ ((Nat → Int32))) :=
  (if u.2 ≤ v18.1 then some (Sum.inr (v18.2)) else zg 6 v18.2 v18.1 fun a38 => zs 6 v18.2 (v18.1 - 1) a38 fun s39 => some (Sum.inl ((v18.1 + 1), s39)))
noncomputable def q_X0_drop (u : tX0) (p1 : Int32) : Option (Int32 × tX0) :=
  zb (q_X0_placeOf u p1) fun r2 => (if r2 = (-6) then some (0, u) else zb (zl 1000000 (q_X0_drop_L18 u) ((r2 + 1), u.1)) (fun b18 => zn (u.2 - 1) fun k53 => some (1, (b18, k53))))
set_option maxRecDepth 100000 in
set_option maxHeartbeats 4000000 in
theorem c_X0_drop (l : Launch) (D : va_G) (G : zG) (ad : Nat → Nat) (b : Nat) (u : tX0) (p1 : Int32) (res : Int32 × tX0) (hf : q_X0_drop u p1 = some res) : zMi l yX0_drop cX0_drop 4 (some .boolean) 1 22 D G (wX0 G ad b u) (wX0 G ad b res.2) [.ref (ad b), .int p1] res.1 := by
  refine zs_z (plainFor_of_name (by decide)) (Nat.le_of_ble_eq_true rfl) ?_
  intro p e s m args below meth c A Q H ls C0 hret hP hD hS hl
  obtain ⟨hx, hb, hml, hown, hW, hK, hlocks, hF, hr, hA⟩ := id C0
  replace hl : lv_has ls 4 [(0, .ref (ad b)), (1, .int p1)] := hl
  unfold q_X0_drop at hf
  refine lv_aload_n hx hb dX0_drop_0 rfl (lv_at hl 0 rfl) ?_
  refine lv_iload_n hx hb dX0_drop_1 rfl (lv_at hl 1 rfl) ?_
  replace hf := zb_s hf
  obtain ⟨r2, hr2, hf⟩ := hf
  refine z_Vi (rest := []) C0 kX0_25 (c_X0_placeOf l D G ad (b) u p1 r2 hr2) z_pall z_pall.symm (ci := 1) (T := TX0) (N := 2) rfl rfl rfl ⟨Nat.le_of_ble_eq_true rfl, Nat.le_of_ble_eq_true rfl⟩ (Nat.le_of_ble_eq_true rfl) rfl hl.1 hP hD hS dX0_drop_2 (fun H locs hP hD hS => ?_)
  refine lv_istore_n (lv' := [(2, .int r2), (0, .ref (ad b)), (1, .int p1)]) hx hb dX0_drop_5 rfl hl (by decide) rfl (fun ls hl => ?_)
  refine lv_iload_n hx hb dX0_drop_6 rfl (lv_at hl 0 rfl) ?_
  refine lv_bipush (v := (-6)) hx hb dX0_drop_7 (by decide) ?_
  refine lv_icmp_ne (tgt := 14) hx hb dX0_drop_9 (by decide) (fun c9 => ?_) (fun c9 => ?_)
  · replace hf := zi_n hf c9
    refine lv_iload_n hx hb dX0_drop_14 rfl (lv_at hl 0 rfl) ?_
    refine lv_iconst (v := 1) hx hb dX0_drop_15 (by decide) ?_
    refine lv_iadd hx hb dX0_drop_16 ?_
    refine lv_istore_n (lv' := [(3, .int (r2 + 1)), (2, .int r2), (0, .ref (ad b)), (1, .int p1)]) hx hb dX0_drop_17 rfl hl (by decide) rfl (fun ls hl => ?_)
    replace hf := zb_s hf
    obtain ⟨b18, hz18, hk18⟩ := hf
    have L18 : ∀ (n18 : Nat) (v18 : Int32 × (Nat → Int32)) (hz18 : zl n18 (q_X0_drop_L18 u) v18 = some b18) (H : Heap) (locs : List Loc) (hP : va_P D vwCl (wX0 G ad b (v18.2, u.2)) H) (hD : va_D A (wX0 G ad b (v18.2, u.2))) (hS : va_S A s.heap H locs) (ls : Array Slot) (hl : lv_has ls 4 [(0, .ref (ad b)), (3, .int v18.1)]), W p l e (zRm 1 22) s m args below meth c H locs 0 0 Q (F0 m 18 ls []) := by
      intro n18
      induction n18 with
      | zero => intro v18 hz18; exact (zl_0 hz18).elim
      | succ n18 ih18 =>
        intro v18 hz18 H locs hP hD hS ls hl
        obtain ⟨o18, hf, hz18⟩ := zl_s hz18
        unfold q_X0_drop_L18 at hf
        refine lv_iload_n hx hb dX0_drop_18 rfl (lv_at hl 1 rfl) ?_
        refine lv_aload_n hx hb dX0_drop_19 rfl (lv_at hl 0 rfl) ?_
        refine va_get (D := D) (ci := 1) (v := .int u.2) (C := RX0) (T := TX0) (N := 2) hx hb hW inlX0 hown hK hP 0 rfl rfl 1 (by decide) (hW _ wd_74) (fun _ h9 => h9) rfl dX0_drop_20 ?_
        refine lv_icmp_ge (tgt := 46) hx hb dX0_drop_23 (by decide) (fun c23 => ?_) (fun c23 => ?_)
        · replace hf := zi_p hf c23
          have hb18 := zk_r hf hz18
          subst hb18
          replace hf := hk18
          refine lv_aload_n hx hb dX0_drop_46 rfl (lv_at hl 0 rfl) ?_
          refine lv_dup hx hb dX0_drop_47 rfl ?_
          refine va_get (D := D) (ci := 1) (v := .int u.2) (C := RX0) (T := TX0) (N := 2) hx hb hW inlX0 hown hK hP 0 rfl rfl 1 (by decide) (hW _ wd_74) (fun _ h9 => h9) rfl dX0_drop_48 ?_
          refine lv_iconst (v := 1) hx hb dX0_drop_51 (by decide) ?_
          refine lv_isub hx hb dX0_drop_52 ?_
          replace hf := zn_s hf
          obtain ⟨k53, ek53, hf⟩ := hf
          refine z_top ek53 ?_
          refine z_put (ws' := wX0 G ad b (v18.2, k53)) (ci := 1) (C := RX0) (T := TX0) (N := 2) hx hb hW inlX0 tyX0 tyX0_ok nmX0 hown hK hP hD hS 0 rfl rfl 1 (by decide) (hW _ wd_74) rfl rfl (Nat.le_of_ble_eq_true rfl) rfl dX0_drop_53 (fun H locs hP hD hS => ?_)
          refine lv_iconst (v := 1) hx hb dX0_drop_56 (by decide) ?_
          obtain rfl := zo hf
          exact hret _ _ _ _ _ hP hD hS rfl rfl dX0_drop_57
        · replace hf := zi_n hf c23
          refine lv_aload_n hx hb dX0_drop_26 rfl (lv_at hl 0 rfl) ?_
          refine va_get (D := D) (ci := 1) (v := .ref (ad (b + 1))) (C := RX0) (T := TX0) (N := 2) hx hb hW inlX0 hown hK hP 0 rfl rfl 0 (by decide) (hW _ wd_73) (fun _ h9 => h9) rfl dX0_drop_27 ?_
          refine lv_iload_n hx hb dX0_drop_30 rfl (lv_at hl 1 rfl) ?_
          refine lv_iconst (v := 1) hx hb dX0_drop_31 (by decide) ?_
          refine lv_isub hx hb dX0_drop_32 ?_
          refine lv_aload_n hx hb dX0_drop_33 rfl (lv_at hl 0 rfl) ?_
          refine va_get (D := D) (ci := 1) (v := .ref (ad (b + 1))) (C := RX0) (T := TX0) (N := 2) hx hb hW inlX0 hown hK hP 0 rfl rfl 0 (by decide) (hW _ wd_73) (fun _ h9 => h9) rfl dX0_drop_34 ?_
          refine lv_iload_n hx hb dX0_drop_37 rfl (lv_at hl 1 rfl) ?_
          replace hf := zg_s hf
          obtain ⟨hi38, a38, ea38, hf⟩ := hf
          refine z_iald hx hb hK hP 1 0 rfl rfl hi38 ea38 dX0_drop_38 ?_
          replace hf := zs_s hf
          obtain ⟨hi39, s39, es39, hf⟩ := hf
          refine z_iast (ws' := wX0 G ad b (s39, u.2)) hx hb hK hP hD hS 1 0 rfl rfl hi39 es39 rfl dX0_drop_39 (fun H locs hP hD hS => ?_)
          refine lv_iinc (v := (v18.1 + 1)) (lv' := [(3, .int (v18.1 + 1)), (0, .ref (ad b))]) hx hb dX0_drop_40 hl (k := 1) rfl rfl (by decide) rfl (fun ls hl => ?_)
          refine lv_goto (tgt := 18) hx hb dX0_drop_43 (by decide) ?_
          exact ih18 _ (zk_l hf hz18) _ _ hP hD hS _ (lv_sub hl [1, 0] rfl)
    exact L18 _ _ hz18 _ _ hP hD hS _ (lv_sub hl [2, 0] rfl)
  · replace hf := zi_p hf c9
    refine lv_iconst (v := 0) hx hb dX0_drop_12 (by decide) ?_
    obtain rfl := zo hf
    exact hret _ _ _ _ _ hP hD hS rfl rfl dX0_drop_13
end
section
noncomputable def q_X3_append_J14 (u : tX3) (p1 : Int32) (p2 : Int32) (p3 : Int32) (w14_0 : Int32) : Option (tX3) :=
  zs 10 u.1 w14_0 p1 fun s23 => zs 10 u.2.1 w14_0 p2 fun s33 => zs 10 u.2.2.1 w14_0 p3 fun s43 => zn (w14_0 + 1) fun k51 => (if 10 ≤ u.2.2.2.2 then some ((s23, s33, s43, k51, u.2.2.2.2)) else zn (u.2.2.2.2 + 1) fun k70 => some ((s23, s33, s43, k51, k70)))
noncomputable def q_X3_append (u : tX3) (p1 : Int32) (p2 : Int32) (p3 : Int32) : Option (tX3) :=
  (if u.2.2.2.1 < 10 then q_X3_append_J14 u p1 p2 p3 u.2.2.2.1 else q_X3_append_J14 u p1 p2 p3 0)
set_option maxRecDepth 100000 in
set_option maxHeartbeats 4000000 in
theorem c_X3_append (l : Launch) (D : va_G) (G : zG) (ad : Nat → Nat) (b : Nat) (u : tX3) (p1 : Int32) (p2 : Int32) (p3 : Int32) (res : tX3) (hf : q_X3_append u p1 p2 p3 = some res) : zMv l yX3_append cX3_append 4 none 0 0 D G (wX3 G ad b u) (wX3 G ad b res) [.ref (ad b), .int p1, .int p2, .int p3] := by
  refine zs_v (plainFor_of_name (by decide)) (Nat.le_of_ble_eq_true rfl) ?_
  intro p e s m args below meth c A Q H ls C0 hret hP hD hS hl
  obtain ⟨hx, hb, hml, hown, hW, hK, hlocks, hF, hr, hA⟩ := id C0
  replace hl : lv_has ls 4 [(0, .ref (ad b)), (1, .int p1), (2, .int p2), (3, .int p3)] := hl
  unfold q_X3_append at hf
  refine lv_aload_n hx hb dX3_append_0 rfl (lv_at hl 0 rfl) ?_
  refine va_get (D := D) (ci := 4) (v := .int u.2.2.2.1) (C := RX3) (T := TX3) (N := 5) hx hb hW inlX3 hown hK hP 0 rfl rfl 3 (by decide) (hW _ wd_81) (fun _ h9 => h9) rfl dX3_append_1 ?_
  refine lv_bipush (v := 10) hx hb dX3_append_4 (by decide) ?_
  have J14 : ∀ (w14_0 : Int32) (hf : q_X3_append_J14 u p1 p2 p3 w14_0 = some res) (H : Heap) (locs : List Loc) (hP : va_P D vwCl (wX3 G ad b (u.1, u.2.1, u.2.2.1, w14_0, u.2.2.2.2)) H) (hD : va_D A (wX3 G ad b (u.1, u.2.1, u.2.2.1, w14_0, u.2.2.2.2))) (hS : va_S A s.heap H locs) (ls : Array Slot) (hl : lv_has ls 4 [(0, .ref (ad b)), (1, .int p1), (2, .int p2), (3, .int p3)]), W p l e (zRm 0 0) s m args below meth c H locs 0 0 Q (F0 m 14 ls []) := by
    intro w14_0 hf H locs hP hD hS ls hl
    unfold q_X3_append_J14 at hf
    refine lv_aload_n hx hb dX3_append_14 rfl (lv_at hl 0 rfl) ?_
    refine va_get (D := D) (ci := 4) (v := .ref (ad (b + 1))) (C := RX3) (T := TX3) (N := 5) hx hb hW inlX3 hown hK hP 0 rfl rfl 0 (by decide) (hW _ wd_78) (fun _ h9 => h9) rfl dX3_append_15 ?_
    refine lv_aload_n hx hb dX3_append_18 rfl (lv_at hl 0 rfl) ?_
    refine va_get (D := D) (ci := 4) (v := .int w14_0) (C := RX3) (T := TX3) (N := 5) hx hb hW inlX3 hown hK hP 0 rfl rfl 3 (by decide) (hW _ wd_81) (fun _ h9 => h9) rfl dX3_append_19 ?_
    refine lv_iload_n hx hb dX3_append_22 rfl (lv_at hl 1 rfl) ?_
    replace hf := zs_s hf
    obtain ⟨hi23, s23, es23, hf⟩ := hf
    refine z_iast (ws' := wX3 G ad b (s23, u.2.1, u.2.2.1, w14_0, u.2.2.2.2)) hx hb hK hP hD hS 1 0 rfl rfl hi23 es23 rfl dX3_append_23 (fun H locs hP hD hS => ?_)
    refine lv_aload_n hx hb dX3_append_24 rfl (lv_at hl 0 rfl) ?_
    refine va_get (D := D) (ci := 4) (v := .ref (ad (b + 2))) (C := RX3) (T := TX3) (N := 5) hx hb hW inlX3 hown hK hP 0 rfl rfl 1 (by decide) (hW _ wd_79) (fun _ h9 => h9) rfl dX3_append_25 ?_
    refine lv_aload_n hx hb dX3_append_28 rfl (lv_at hl 0 rfl) ?_
    refine va_get (D := D) (ci := 4) (v := .int w14_0) (C := RX3) (T := TX3) (N := 5) hx hb hW inlX3 hown hK hP 0 rfl rfl 3 (by decide) (hW _ wd_81) (fun _ h9 => h9) rfl dX3_append_29 ?_
    refine lv_iload_n hx hb dX3_append_32 rfl (lv_at hl 2 rfl) ?_
    replace hf := zs_s hf
    obtain ⟨hi33, s33, es33, hf⟩ := hf
    refine z_iast (ws' := wX3 G ad b (s23, s33, u.2.2.1, w14_0, u.2.2.2.2)) hx hb hK hP hD hS 2 0 rfl rfl hi33 es33 rfl dX3_append_33 (fun H locs hP hD hS => ?_)
    refine lv_aload_n hx hb dX3_append_34 rfl (lv_at hl 0 rfl) ?_
    refine va_get (D := D) (ci := 4) (v := .ref (ad (b + 3))) (C := RX3) (T := TX3) (N := 5) hx hb hW inlX3 hown hK hP 0 rfl rfl 2 (by decide) (hW _ wd_80) (fun _ h9 => h9) rfl dX3_append_35 ?_
    refine lv_aload_n hx hb dX3_append_38 rfl (lv_at hl 0 rfl) ?_
    refine va_get (D := D) (ci := 4) (v := .int w14_0) (C := RX3) (T := TX3) (N := 5) hx hb hW inlX3 hown hK hP 0 rfl rfl 3 (by decide) (hW _ wd_81) (fun _ h9 => h9) rfl dX3_append_39 ?_
    refine lv_iload_n hx hb dX3_append_42 rfl (lv_at hl 3 rfl) ?_
    replace hf := zs_s hf
    obtain ⟨hi43, s43, es43, hf⟩ := hf
    refine z_iast (ws' := wX3 G ad b (s23, s33, s43, w14_0, u.2.2.2.2)) hx hb hK hP hD hS 3 0 rfl rfl hi43 es43 rfl dX3_append_43 (fun H locs hP hD hS => ?_)
    refine lv_aload_n hx hb dX3_append_44 rfl (lv_at hl 0 rfl) ?_
    refine lv_dup hx hb dX3_append_45 rfl ?_
    refine va_get (D := D) (ci := 4) (v := .int w14_0) (C := RX3) (T := TX3) (N := 5) hx hb hW inlX3 hown hK hP 0 rfl rfl 3 (by decide) (hW _ wd_81) (fun _ h9 => h9) rfl dX3_append_46 ?_
    refine lv_iconst (v := 1) hx hb dX3_append_49 (by decide) ?_
    refine lv_iadd hx hb dX3_append_50 ?_
    replace hf := zn_s hf
    obtain ⟨k51, ek51, hf⟩ := hf
    refine z_top ek51 ?_
    refine z_put (ws' := wX3 G ad b (s23, s33, s43, k51, u.2.2.2.2)) (ci := 4) (C := RX3) (T := TX3) (N := 5) hx hb hW inlX3 tyX3 tyX3_ok nmX3 hown hK hP hD hS 0 rfl rfl 3 (by decide) (hW _ wd_81) rfl rfl (Nat.le_of_ble_eq_true rfl) rfl dX3_append_51 (fun H locs hP hD hS => ?_)
    refine lv_aload_n hx hb dX3_append_54 rfl (lv_at hl 0 rfl) ?_
    refine va_get (D := D) (ci := 4) (v := .int u.2.2.2.2) (C := RX3) (T := TX3) (N := 5) hx hb hW inlX3 hown hK hP 0 rfl rfl 4 (by decide) (hW _ wd_82) (fun _ h9 => h9) rfl dX3_append_55 ?_
    refine lv_bipush (v := 10) hx hb dX3_append_58 (by decide) ?_
    refine lv_icmp_ge (tgt := 73) hx hb dX3_append_60 (by decide) (fun c60 => ?_) (fun c60 => ?_)
    · replace hf := zi_p hf c60
      obtain rfl := zo hf
      exact hret _ _ _ _ hP hD hS dX3_append_73
    · replace hf := zi_n hf c60
      refine lv_aload_n hx hb dX3_append_63 rfl (lv_at hl 0 rfl) ?_
      refine lv_dup hx hb dX3_append_64 rfl ?_
      refine va_get (D := D) (ci := 4) (v := .int u.2.2.2.2) (C := RX3) (T := TX3) (N := 5) hx hb hW inlX3 hown hK hP 0 rfl rfl 4 (by decide) (hW _ wd_82) (fun _ h9 => h9) rfl dX3_append_65 ?_
      refine lv_iconst (v := 1) hx hb dX3_append_68 (by decide) ?_
      refine lv_iadd hx hb dX3_append_69 ?_
      replace hf := zn_s hf
      obtain ⟨k70, ek70, hf⟩ := hf
      refine z_top ek70 ?_
      refine z_put (ws' := wX3 G ad b (s23, s33, s43, k51, k70)) (ci := 4) (C := RX3) (T := TX3) (N := 5) hx hb hW inlX3 tyX3 tyX3_ok nmX3 hown hK hP hD hS 0 rfl rfl 4 (by decide) (hW _ wd_82) rfl rfl (Nat.le_of_ble_eq_true rfl) rfl dX3_append_70 (fun H locs hP hD hS => ?_)
      obtain rfl := zo hf
      exact hret _ _ _ _ hP hD hS dX3_append_73
  refine lv_icmp_lt (tgt := 14) hx hb dX3_append_6 (by decide) (fun c6 => ?_) (fun c6 => ?_)
  · replace hf := zi_p hf c6
    exact J14 u.2.2.2.1 hf _ _ hP hD hS _ (lv_sub hl [0, 1, 2, 3] rfl)
  · replace hf := zi_n hf c6
    refine lv_aload_n hx hb dX3_append_9 rfl (lv_at hl 0 rfl) ?_
    refine lv_iconst (v := 0) hx hb dX3_append_10 (by decide) ?_
    refine z_put (ws' := wX3 G ad b (u.1, u.2.1, u.2.2.1, 0, u.2.2.2.2)) (ci := 4) (C := RX3) (T := TX3) (N := 5) hx hb hW inlX3 tyX3 tyX3_ok nmX3 hown hK hP hD hS 0 rfl rfl 3 (by decide) (hW _ wd_81) rfl rfl (Nat.le_of_ble_eq_true rfl) rfl dX3_append_11 (fun H locs hP hD hS => ?_)
    exact J14 0 hf _ _ hP hD hS _ (lv_sub hl [0, 1, 2, 3] rfl)
noncomputable def q_X3_has (u : tX3) (p1 : Int32) : Option (Int32) :=
  (if p1 < 0 then some (0) else (if u.2.2.2.2 ≤ p1 then some (0) else some (1)))
set_option maxRecDepth 100000 in
set_option maxHeartbeats 4000000 in
theorem c_X3_has (l : Launch) (D : va_G) (G : zG) (ad : Nat → Nat) (b : Nat) (u : tX3) (p1 : Int32) (res : Int32) (hf : q_X3_has u p1 = some res) : zMi l yX3_has cX3_has 2 (some .boolean) 0 0 D G (wX3 G ad b u) (wX3 G ad b u) [.ref (ad b), .int p1] res := by
  refine zs_z (plainFor_of_name (by decide)) (Nat.le_of_ble_eq_true rfl) ?_
  intro p e s m args below meth c A Q H ls C0 hret hP hD hS hl
  obtain ⟨hx, hb, hml, hown, hW, hK, hlocks, hF, hr, hA⟩ := id C0
  replace hl : lv_has ls 2 [(0, .ref (ad b)), (1, .int p1)] := hl
  unfold q_X3_has at hf
  refine lv_iload_n hx hb dX3_has_0 rfl (lv_at hl 1 rfl) ?_
  refine lv_if_lt (tgt := 16) hx hb dX3_has_1 (by decide) (fun c1 => ?_) (fun c1 => ?_)
  · replace hf := zi_p hf c1
    refine lv_iconst (v := 0) hx hb dX3_has_16 (by decide) ?_
    obtain rfl := zo hf
    exact hret _ _ _ _ _ hP hD hS rfl rfl dX3_has_17
  · replace hf := zi_n hf c1
    refine lv_iload_n hx hb dX3_has_4 rfl (lv_at hl 1 rfl) ?_
    refine lv_aload_n hx hb dX3_has_5 rfl (lv_at hl 0 rfl) ?_
    refine va_get (D := D) (ci := 4) (v := .int u.2.2.2.2) (C := RX3) (T := TX3) (N := 5) hx hb hW inlX3 hown hK hP 0 rfl rfl 4 (by decide) (hW _ wd_82) (fun _ h9 => h9) rfl dX3_has_6 ?_
    refine lv_icmp_ge (tgt := 16) hx hb dX3_has_9 (by decide) (fun c9 => ?_) (fun c9 => ?_)
    · replace hf := zi_p hf c9
      refine lv_iconst (v := 0) hx hb dX3_has_16 (by decide) ?_
      obtain rfl := zo hf
      exact hret _ _ _ _ _ hP hD hS rfl rfl dX3_has_17
    · replace hf := zi_n hf c9
      refine lv_iconst (v := 1) hx hb dX3_has_12 (by decide) ?_
      refine lv_goto (tgt := 17) hx hb dX3_has_13 (by decide) ?_
      obtain rfl := zo hf
      exact hret _ _ _ _ _ hP hD hS rfl rfl dX3_has_17
theorem kX3_38 : zLkS RX3 38 yJ9_floorMod_7cf53 cJ9_floorMod_7cf53 3 (some .int) 2 := ⟨⟨wd_571, wd_572, wd_573, wd_574⟩, by decide +kernel⟩
noncomputable def q_X3_placeOf (u : tX3) (p1 : Int32) : Option (Int32) :=
  zb (q_J9_floorMod_7cf53 ((u.2.2.2.1 - u.2.2.2.2) + p1) 10) fun r13 => some (r13)
set_option maxRecDepth 100000 in
set_option maxHeartbeats 4000000 in
theorem c_X3_placeOf (l : Launch) (D : va_G) (G : zG) (ad : Nat → Nat) (b : Nat) (u : tX3) (p1 : Int32) (res : Int32) (hf : q_X3_placeOf u p1 = some res) : zMi l yX3_placeOf cX3_placeOf 2 (some .int) 1 22 D G (wX3 G ad b u) (wX3 G ad b u) [.ref (ad b), .int p1] res := by
  refine zs_i (plainFor_of_name (by decide)) (Nat.le_of_ble_eq_true rfl) ?_
  intro p e s m args below meth c A Q H ls C0 hret hP hD hS hl
  obtain ⟨hx, hb, hml, hown, hW, hK, hlocks, hF, hr, hA⟩ := id C0
  replace hl : lv_has ls 2 [(0, .ref (ad b)), (1, .int p1)] := hl
  unfold q_X3_placeOf at hf
  refine lv_aload_n hx hb dX3_placeOf_0 rfl (lv_at hl 0 rfl) ?_
  refine va_get (D := D) (ci := 4) (v := .int u.2.2.2.1) (C := RX3) (T := TX3) (N := 5) hx hb hW inlX3 hown hK hP 0 rfl rfl 3 (by decide) (hW _ wd_81) (fun _ h9 => h9) rfl dX3_placeOf_1 ?_
  refine lv_aload_n hx hb dX3_placeOf_4 rfl (lv_at hl 0 rfl) ?_
  refine va_get (D := D) (ci := 4) (v := .int u.2.2.2.2) (C := RX3) (T := TX3) (N := 5) hx hb hW inlX3 hown hK hP 0 rfl rfl 4 (by decide) (hW _ wd_82) (fun _ h9 => h9) rfl dX3_placeOf_5 ?_
  refine lv_isub hx hb dX3_placeOf_8 ?_
  refine lv_iload_n hx hb dX3_placeOf_9 rfl (lv_at hl 1 rfl) ?_
  refine lv_iadd hx hb dX3_placeOf_10 ?_
  refine lv_bipush (v := 10) hx hb dX3_placeOf_11 (by decide) ?_
  replace hf := zb_s hf
  obtain ⟨r13, hr13, hf⟩ := hf
  refine z_Si (rest := []) C0 kX3_38 (c_J9_floorMod_7cf53 l D G ((u.2.2.2.1 - u.2.2.2.2) + p1) 10 r13 hr13) (List.Perm.refl _) (List.Perm.refl _) rfl ⟨Nat.le_of_ble_eq_true rfl, Nat.le_of_ble_eq_true rfl⟩ (Nat.le_of_ble_eq_true rfl) rfl hl.1 hP hD hS dX3_placeOf_13 (fun H locs hP hD hS => ?_)
  obtain rfl := zo hf
  exact hret _ _ _ _ _ hP hD hS rfl dX3_placeOf_16
theorem kX3_34 : zLkV RX3 34 yX3_placeOf cX3_placeOf 2 (some .int) 1 := ⟨⟨wd_567, wd_568, wd_569, wd_46, wd_570⟩, by decide +kernel⟩
noncomputable def q_X3_tickAt (u : tX3) (p1 : Int32) : Option (Int32) :=
  zb (q_X3_placeOf u p1) fun r6 => zg 10 u.1 r6 fun a9 => some (a9)
set_option maxRecDepth 100000 in
set_option maxHeartbeats 4000000 in
theorem c_X3_tickAt (l : Launch) (D : va_G) (G : zG) (ad : Nat → Nat) (b : Nat) (u : tX3) (p1 : Int32) (res : Int32) (hf : q_X3_tickAt u p1 = some res) : zMi l yX3_tickAt cX3_tickAt 2 (some .int) 2 43 D G (wX3 G ad b u) (wX3 G ad b u) [.ref (ad b), .int p1] res := by
  refine zs_i (plainFor_of_name (by decide)) (Nat.le_of_ble_eq_true rfl) ?_
  intro p e s m args below meth c A Q H ls C0 hret hP hD hS hl
  obtain ⟨hx, hb, hml, hown, hW, hK, hlocks, hF, hr, hA⟩ := id C0
  replace hl : lv_has ls 2 [(0, .ref (ad b)), (1, .int p1)] := hl
  unfold q_X3_tickAt at hf
  refine lv_aload_n hx hb dX3_tickAt_0 rfl (lv_at hl 0 rfl) ?_
  refine va_get (D := D) (ci := 4) (v := .ref (ad (b + 1))) (C := RX3) (T := TX3) (N := 5) hx hb hW inlX3 hown hK hP 0 rfl rfl 0 (by decide) (hW _ wd_78) (fun _ h9 => h9) rfl dX3_tickAt_1 ?_
  refine lv_aload_n hx hb dX3_tickAt_4 rfl (lv_at hl 0 rfl) ?_
  refine lv_iload_n hx hb dX3_tickAt_5 rfl (lv_at hl 1 rfl) ?_
  replace hf := zb_s hf
  obtain ⟨r6, hr6, hf⟩ := hf
  refine z_Vi (rest := [.ref (ad (b + 1))]) C0 kX3_34 (c_X3_placeOf l D G ad (b) u p1 r6 hr6) z_pall z_pall.symm (ci := 4) (T := TX3) (N := 5) rfl rfl rfl ⟨Nat.le_of_ble_eq_true rfl, Nat.le_of_ble_eq_true rfl⟩ (Nat.le_of_ble_eq_true rfl) rfl hl.1 hP hD hS dX3_tickAt_6 (fun H locs hP hD hS => ?_)
  replace hf := zg_s hf
  obtain ⟨hi9, a9, ea9, hf⟩ := hf
  refine z_iald hx hb hK hP 1 0 rfl rfl hi9 ea9 dX3_tickAt_9 ?_
  obtain rfl := zo hf
  exact hret _ _ _ _ _ hP hD hS rfl dX3_tickAt_10
noncomputable def q_X3_kindAt (u : tX3) (p1 : Int32) : Option (Int32) :=
  zb (q_X3_placeOf u p1) fun r6 => zg 10 u.2.1 r6 fun a9 => some (a9)
set_option maxRecDepth 100000 in
set_option maxHeartbeats 4000000 in
theorem c_X3_kindAt (l : Launch) (D : va_G) (G : zG) (ad : Nat → Nat) (b : Nat) (u : tX3) (p1 : Int32) (res : Int32) (hf : q_X3_kindAt u p1 = some res) : zMi l yX3_kindAt cX3_kindAt 2 (some .int) 2 43 D G (wX3 G ad b u) (wX3 G ad b u) [.ref (ad b), .int p1] res := by
  refine zs_i (plainFor_of_name (by decide)) (Nat.le_of_ble_eq_true rfl) ?_
  intro p e s m args below meth c A Q H ls C0 hret hP hD hS hl
  obtain ⟨hx, hb, hml, hown, hW, hK, hlocks, hF, hr, hA⟩ := id C0
  replace hl : lv_has ls 2 [(0, .ref (ad b)), (1, .int p1)] := hl
  unfold q_X3_kindAt at hf
  refine lv_aload_n hx hb dX3_kindAt_0 rfl (lv_at hl 0 rfl) ?_
  refine va_get (D := D) (ci := 4) (v := .ref (ad (b + 2))) (C := RX3) (T := TX3) (N := 5) hx hb hW inlX3 hown hK hP 0 rfl rfl 1 (by decide) (hW _ wd_79) (fun _ h9 => h9) rfl dX3_kindAt_1 ?_
  refine lv_aload_n hx hb dX3_kindAt_4 rfl (lv_at hl 0 rfl) ?_
  refine lv_iload_n hx hb dX3_kindAt_5 rfl (lv_at hl 1 rfl) ?_
  replace hf := zb_s hf
  obtain ⟨r6, hr6, hf⟩ := hf
  refine z_Vi (rest := [.ref (ad (b + 2))]) C0 kX3_34 (c_X3_placeOf l D G ad (b) u p1 r6 hr6) z_pall z_pall.symm (ci := 4) (T := TX3) (N := 5) rfl rfl rfl ⟨Nat.le_of_ble_eq_true rfl, Nat.le_of_ble_eq_true rfl⟩ (Nat.le_of_ble_eq_true rfl) rfl hl.1 hP hD hS dX3_kindAt_6 (fun H locs hP hD hS => ?_)
  replace hf := zg_s hf
  obtain ⟨hi9, a9, ea9, hf⟩ := hf
  refine z_iald hx hb hK hP 2 0 rfl rfl hi9 ea9 dX3_kindAt_9 ?_
  obtain rfl := zo hf
  exact hret _ _ _ _ _ hP hD hS rfl dX3_kindAt_10
noncomputable def q_X3_spanAt (u : tX3) (p1 : Int32) : Option (Int32) :=
  zb (q_X3_placeOf u p1) fun r6 => zg 10 u.2.2.1 r6 fun a9 => some (a9)
set_option maxRecDepth 100000 in
set_option maxHeartbeats 4000000 in
theorem c_X3_spanAt (l : Launch) (D : va_G) (G : zG) (ad : Nat → Nat) (b : Nat) (u : tX3) (p1 : Int32) (res : Int32) (hf : q_X3_spanAt u p1 = some res) : zMi l yX3_spanAt cX3_spanAt 2 (some .int) 2 43 D G (wX3 G ad b u) (wX3 G ad b u) [.ref (ad b), .int p1] res := by
  refine zs_i (plainFor_of_name (by decide)) (Nat.le_of_ble_eq_true rfl) ?_
  intro p e s m args below meth c A Q H ls C0 hret hP hD hS hl
  obtain ⟨hx, hb, hml, hown, hW, hK, hlocks, hF, hr, hA⟩ := id C0
  replace hl : lv_has ls 2 [(0, .ref (ad b)), (1, .int p1)] := hl
  unfold q_X3_spanAt at hf
  refine lv_aload_n hx hb dX3_spanAt_0 rfl (lv_at hl 0 rfl) ?_
  refine va_get (D := D) (ci := 4) (v := .ref (ad (b + 3))) (C := RX3) (T := TX3) (N := 5) hx hb hW inlX3 hown hK hP 0 rfl rfl 2 (by decide) (hW _ wd_80) (fun _ h9 => h9) rfl dX3_spanAt_1 ?_
  refine lv_aload_n hx hb dX3_spanAt_4 rfl (lv_at hl 0 rfl) ?_
  refine lv_iload_n hx hb dX3_spanAt_5 rfl (lv_at hl 1 rfl) ?_
  replace hf := zb_s hf
  obtain ⟨r6, hr6, hf⟩ := hf
  refine z_Vi (rest := [.ref (ad (b + 3))]) C0 kX3_34 (c_X3_placeOf l D G ad (b) u p1 r6 hr6) z_pall z_pall.symm (ci := 4) (T := TX3) (N := 5) rfl rfl rfl ⟨Nat.le_of_ble_eq_true rfl, Nat.le_of_ble_eq_true rfl⟩ (Nat.le_of_ble_eq_true rfl) rfl hl.1 hP hD hS dX3_spanAt_6 (fun H locs hP hD hS => ?_)
  replace hf := zg_s hf
  obtain ⟨hi9, a9, ea9, hf⟩ := hf
  refine z_iald hx hb hK hP 3 0 rfl rfl hi9 ea9 dX3_spanAt_9 ?_
  obtain rfl := zo hf
  exact hret _ _ _ _ _ hP hD hS rfl dX3_spanAt_10
end
section
noncomputable def q_X1_changeWay (u : tX1) (p1 : Int32) : Option (Int32 × Int32) :=
  (if p1 < 0 then some ((-2), u.2.2.2.2.2.1) else (if p1 < 3 then some (u.2.2.2.2.2.1, p1) else some ((-2), u.2.2.2.2.2.1)))
set_option maxRecDepth 100000 in
set_option maxHeartbeats 4000000 in
theorem c_X1_changeWay (l : Launch) (D : va_G) (G : zG) (ad : Nat → Nat) (b : Nat) (u : tX1) (p1 : Int32) (res : Int32 × Int32) (hf : q_X1_changeWay u p1 = some res) : zMi l yX1_changeWay cX1_changeWay 3 (some .int) 0 0 D G (wX1 G ad b u) (wX1 G ad b (u.1, u.2.1, u.2.2.1, u.2.2.2.1, u.2.2.2.2.1, res.2, u.2.2.2.2.2.2.1, u.2.2.2.2.2.2.2.1, u.2.2.2.2.2.2.2.2.1, u.2.2.2.2.2.2.2.2.2.1, u.2.2.2.2.2.2.2.2.2.2.1, u.2.2.2.2.2.2.2.2.2.2.2.1, u.2.2.2.2.2.2.2.2.2.2.2.2.1, u.2.2.2.2.2.2.2.2.2.2.2.2.2.1, u.2.2.2.2.2.2.2.2.2.2.2.2.2.2.1, u.2.2.2.2.2.2.2.2.2.2.2.2.2.2.2.1, u.2.2.2.2.2.2.2.2.2.2.2.2.2.2.2.2)) [.ref (ad b), .int p1] res.1 := by
  refine zs_i (plainFor_of_name (by decide)) (Nat.le_of_ble_eq_true rfl) ?_
  intro p e s m args below meth c A Q H ls C0 hret hP hD hS hl
  obtain ⟨hx, hb, hml, hown, hW, hK, hlocks, hF, hr, hA⟩ := id C0
  replace hl : lv_has ls 3 [(0, .ref (ad b)), (1, .int p1)] := hl
  unfold q_X1_changeWay at hf
  refine lv_iload_n hx hb dX1_changeWay_0 rfl (lv_at hl 1 rfl) ?_
  refine lv_if_lt (tgt := 9) hx hb dX1_changeWay_1 (by decide) (fun c1 => ?_) (fun c1 => ?_)
  · replace hf := zi_p hf c1
    refine lv_bipush (v := (-2)) hx hb dX1_changeWay_9 (by decide) ?_
    obtain rfl := zo hf
    exact hret _ _ _ _ _ hP hD hS rfl dX1_changeWay_11
  · replace hf := zi_n hf c1
    refine lv_iload_n hx hb dX1_changeWay_4 rfl (lv_at hl 1 rfl) ?_
    refine lv_iconst (v := 3) hx hb dX1_changeWay_5 (by decide) ?_
    refine lv_icmp_lt (tgt := 12) hx hb dX1_changeWay_6 (by decide) (fun c6 => ?_) (fun c6 => ?_)
    · replace hf := zi_p hf c6
      refine lv_aload_n hx hb dX1_changeWay_12 rfl (lv_at hl 0 rfl) ?_
      refine va_get (D := D) (ci := 2) (v := .int u.2.2.2.2.2.1) (C := RX1) (T := TX1) (N := 17) hx hb hW inlX1 hown hK hP 0 rfl rfl 5 (by decide) (hW _ wd_48) (fun _ h9 => h9) rfl dX1_changeWay_13 ?_
      refine lv_istore_n (lv' := [(2, .int u.2.2.2.2.2.1), (0, .ref (ad b)), (1, .int p1)]) hx hb dX1_changeWay_16 rfl hl (by decide) rfl (fun ls hl => ?_)
      refine lv_aload_n hx hb dX1_changeWay_17 rfl (lv_at hl 1 rfl) ?_
      refine lv_iload_n hx hb dX1_changeWay_18 rfl (lv_at hl 2 rfl) ?_
      refine z_put (ws' := wX1 G ad b (u.1, u.2.1, u.2.2.1, u.2.2.2.1, u.2.2.2.2.1, p1, u.2.2.2.2.2.2.1, u.2.2.2.2.2.2.2.1, u.2.2.2.2.2.2.2.2.1, u.2.2.2.2.2.2.2.2.2.1, u.2.2.2.2.2.2.2.2.2.2.1, u.2.2.2.2.2.2.2.2.2.2.2.1, u.2.2.2.2.2.2.2.2.2.2.2.2.1, u.2.2.2.2.2.2.2.2.2.2.2.2.2.1, u.2.2.2.2.2.2.2.2.2.2.2.2.2.2.1, u.2.2.2.2.2.2.2.2.2.2.2.2.2.2.2.1, u.2.2.2.2.2.2.2.2.2.2.2.2.2.2.2.2)) (ci := 2) (C := RX1) (T := TX1) (N := 17) hx hb hW inlX1 tyX1 tyX1_ok nmX1 hown hK hP hD hS 0 rfl rfl 5 (by decide) (hW _ wd_48) rfl rfl (Nat.le_of_ble_eq_true rfl) rfl dX1_changeWay_19 (fun H locs hP hD hS => ?_)
      refine lv_iload_n hx hb dX1_changeWay_22 rfl (lv_at hl 0 rfl) ?_
      obtain rfl := zo hf
      exact hret _ _ _ _ _ hP hD hS rfl dX1_changeWay_23
    · replace hf := zi_n hf c6
      refine lv_bipush (v := (-2)) hx hb dX1_changeWay_9 (by decide) ?_
      obtain rfl := zo hf
      exact hret _ _ _ _ _ hP hD hS rfl dX1_changeWay_11
noncomputable def q_X1_takeSpares (u : tX1) (p1 : Int32) : Option (Int32 × Int32) :=
  (if p1 < 1 then some ((-2), u.2.2.2.2.2.2.1) else (if p1 ≤ 9 then (if (u.2.2.2.2.2.2.1 + p1) ≤ 50 then zn (u.2.2.2.2.2.2.1 + p1) fun k35 => some (k35, k35) else some ((-4), u.2.2.2.2.2.2.1)) else some ((-2), u.2.2.2.2.2.2.1)))
set_option maxRecDepth 100000 in
set_option maxHeartbeats 4000000 in
theorem c_X1_takeSpares (l : Launch) (D : va_G) (G : zG) (ad : Nat → Nat) (b : Nat) (u : tX1) (p1 : Int32) (res : Int32 × Int32) (hf : q_X1_takeSpares u p1 = some res) : zMi l yX1_takeSpares cX1_takeSpares 2 (some .int) 0 0 D G (wX1 G ad b u) (wX1 G ad b (u.1, u.2.1, u.2.2.1, u.2.2.2.1, u.2.2.2.2.1, u.2.2.2.2.2.1, res.2, u.2.2.2.2.2.2.2.1, u.2.2.2.2.2.2.2.2.1, u.2.2.2.2.2.2.2.2.2.1, u.2.2.2.2.2.2.2.2.2.2.1, u.2.2.2.2.2.2.2.2.2.2.2.1, u.2.2.2.2.2.2.2.2.2.2.2.2.1, u.2.2.2.2.2.2.2.2.2.2.2.2.2.1, u.2.2.2.2.2.2.2.2.2.2.2.2.2.2.1, u.2.2.2.2.2.2.2.2.2.2.2.2.2.2.2.1, u.2.2.2.2.2.2.2.2.2.2.2.2.2.2.2.2)) [.ref (ad b), .int p1] res.1 := by
  refine zs_i (plainFor_of_name (by decide)) (Nat.le_of_ble_eq_true rfl) ?_
  intro p e s m args below meth c A Q H ls C0 hret hP hD hS hl
  obtain ⟨hx, hb, hml, hown, hW, hK, hlocks, hF, hr, hA⟩ := id C0
  replace hl : lv_has ls 2 [(0, .ref (ad b)), (1, .int p1)] := hl
  unfold q_X1_takeSpares at hf
  refine lv_iload_n hx hb dX1_takeSpares_0 rfl (lv_at hl 1 rfl) ?_
  refine lv_iconst (v := 1) hx hb dX1_takeSpares_1 (by decide) ?_
  refine lv_icmp_lt (tgt := 11) hx hb dX1_takeSpares_2 (by decide) (fun c2 => ?_) (fun c2 => ?_)
  · replace hf := zi_p hf c2
    refine lv_bipush (v := (-2)) hx hb dX1_takeSpares_11 (by decide) ?_
    obtain rfl := zo hf
    exact hret _ _ _ _ _ hP hD hS rfl dX1_takeSpares_13
  · replace hf := zi_n hf c2
    refine lv_iload_n hx hb dX1_takeSpares_5 rfl (lv_at hl 1 rfl) ?_
    refine lv_bipush (v := 9) hx hb dX1_takeSpares_6 (by decide) ?_
    refine lv_icmp_le (tgt := 14) hx hb dX1_takeSpares_8 (by decide) (fun c8 => ?_) (fun c8 => ?_)
    · replace hf := zi_p hf c8
      refine lv_aload_n hx hb dX1_takeSpares_14 rfl (lv_at hl 0 rfl) ?_
      refine va_get (D := D) (ci := 2) (v := .int u.2.2.2.2.2.2.1) (C := RX1) (T := TX1) (N := 17) hx hb hW inlX1 hown hK hP 0 rfl rfl 6 (by decide) (hW _ wd_49) (fun _ h9 => h9) rfl dX1_takeSpares_15 ?_
      refine lv_iload_n hx hb dX1_takeSpares_18 rfl (lv_at hl 1 rfl) ?_
      refine lv_iadd hx hb dX1_takeSpares_19 ?_
      refine lv_bipush (v := 50) hx hb dX1_takeSpares_20 (by decide) ?_
      refine lv_icmp_le (tgt := 28) hx hb dX1_takeSpares_22 (by decide) (fun c22 => ?_) (fun c22 => ?_)
      · replace hf := zi_p hf c22
        refine lv_aload_n hx hb dX1_takeSpares_28 rfl (lv_at hl 0 rfl) ?_
        refine lv_dup hx hb dX1_takeSpares_29 rfl ?_
        refine va_get (D := D) (ci := 2) (v := .int u.2.2.2.2.2.2.1) (C := RX1) (T := TX1) (N := 17) hx hb hW inlX1 hown hK hP 0 rfl rfl 6 (by decide) (hW _ wd_49) (fun _ h9 => h9) rfl dX1_takeSpares_30 ?_
        refine lv_iload_n hx hb dX1_takeSpares_33 rfl (lv_at hl 1 rfl) ?_
        refine lv_iadd hx hb dX1_takeSpares_34 ?_
        replace hf := zn_s hf
        obtain ⟨k35, ek35, hf⟩ := hf
        refine z_top ek35 ?_
        refine z_put (ws' := wX1 G ad b (u.1, u.2.1, u.2.2.1, u.2.2.2.1, u.2.2.2.2.1, u.2.2.2.2.2.1, k35, u.2.2.2.2.2.2.2.1, u.2.2.2.2.2.2.2.2.1, u.2.2.2.2.2.2.2.2.2.1, u.2.2.2.2.2.2.2.2.2.2.1, u.2.2.2.2.2.2.2.2.2.2.2.1, u.2.2.2.2.2.2.2.2.2.2.2.2.1, u.2.2.2.2.2.2.2.2.2.2.2.2.2.1, u.2.2.2.2.2.2.2.2.2.2.2.2.2.2.1, u.2.2.2.2.2.2.2.2.2.2.2.2.2.2.2.1, u.2.2.2.2.2.2.2.2.2.2.2.2.2.2.2.2)) (ci := 2) (C := RX1) (T := TX1) (N := 17) hx hb hW inlX1 tyX1 tyX1_ok nmX1 hown hK hP hD hS 0 rfl rfl 6 (by decide) (hW _ wd_49) rfl rfl (Nat.le_of_ble_eq_true rfl) rfl dX1_takeSpares_35 (fun H locs hP hD hS => ?_)
        refine lv_aload_n hx hb dX1_takeSpares_38 rfl (lv_at hl 0 rfl) ?_
        refine va_get (D := D) (ci := 2) (v := .int k35) (C := RX1) (T := TX1) (N := 17) hx hb hW inlX1 hown hK hP 0 rfl rfl 6 (by decide) (hW _ wd_49) (fun _ h9 => h9) rfl dX1_takeSpares_39 ?_
        obtain rfl := zo hf
        exact hret _ _ _ _ _ hP hD hS rfl dX1_takeSpares_42
      · replace hf := zi_n hf c22
        refine lv_bipush (v := (-4)) hx hb dX1_takeSpares_25 (by decide) ?_
        obtain rfl := zo hf
        exact hret _ _ _ _ _ hP hD hS rfl dX1_takeSpares_27
    · replace hf := zi_n hf c8
      refine lv_bipush (v := (-2)) hx hb dX1_takeSpares_11 (by decide) ?_
      obtain rfl := zo hf
      exact hret _ _ _ _ _ hP hD hS rfl dX1_takeSpares_13
theorem kX1_105 : zLkN RX1 105 yX6_isSpan cX6_isSpan 1 (some .boolean) 1 := ⟨⟨by decide +kernel, wd_233, wd_2, wd_234⟩, by decide +kernel⟩
theorem kX1_108 : zLkV RX1 108 yX5_append cX5_append 3 (some .boolean) 2 := ⟨⟨wd_235, wd_236, wd_237, wd_38, wd_238⟩, by decide +kernel⟩
theorem kX1_112 : zLkV RX1 112 yX5_sizeOf cX5_sizeOf 4 (some .int) 1 := ⟨⟨wd_239, wd_240, wd_241, wd_38, wd_242⟩, by decide +kernel⟩
noncomputable def q_X1_takeSpot (u : tX1) (p1 : Int32) (p2 : Int32) : Option (Int32 × tX5) :=
  zb (q_X6_isSpan p1) fun r1 => (if r1 = 0 then some ((-1), u.2.2.1) else (if p2 < 1 then some ((-2), u.2.2.1) else (if p2 ≤ 9 then zb (q_X5_append u.2.2.1 p1 p2) fun r29 => (if r29.1 = 0 then some ((-4), r29.2) else zb (q_X5_sizeOf r29.2 p1) fun r43 => some (r43, r29.2)) else some ((-2), u.2.2.1))))
set_option maxRecDepth 100000 in
set_option maxHeartbeats 4000000 in
theorem c_X1_takeSpot (l : Launch) (D : va_G) (G : zG) (ad : Nat → Nat) (b : Nat) (u : tX1) (p1 : Int32) (p2 : Int32) (res : Int32 × tX5) (hf : q_X1_takeSpot u p1 p2 = some res) : zMi l yX1_takeSpot cX1_takeSpot 3 (some .int) 1 23 D G (wX1 G ad b u) (wX1 G ad b (u.1, u.2.1, res.2, u.2.2.2.1, u.2.2.2.2.1, u.2.2.2.2.2.1, u.2.2.2.2.2.2.1, u.2.2.2.2.2.2.2.1, u.2.2.2.2.2.2.2.2.1, u.2.2.2.2.2.2.2.2.2.1, u.2.2.2.2.2.2.2.2.2.2.1, u.2.2.2.2.2.2.2.2.2.2.2.1, u.2.2.2.2.2.2.2.2.2.2.2.2.1, u.2.2.2.2.2.2.2.2.2.2.2.2.2.1, u.2.2.2.2.2.2.2.2.2.2.2.2.2.2.1, u.2.2.2.2.2.2.2.2.2.2.2.2.2.2.2.1, u.2.2.2.2.2.2.2.2.2.2.2.2.2.2.2.2)) [.ref (ad b), .int p1, .int p2] res.1 := by
  refine zs_i (plainFor_of_name (by decide)) (Nat.le_of_ble_eq_true rfl) ?_
  intro p e s m args below meth c A Q H ls C0 hret hP hD hS hl
  obtain ⟨hx, hb, hml, hown, hW, hK, hlocks, hF, hr, hA⟩ := id C0
  replace hl : lv_has ls 3 [(0, .ref (ad b)), (1, .int p1), (2, .int p2)] := hl
  unfold q_X1_takeSpot at hf
  refine lv_iload_n hx hb dX1_takeSpot_0 rfl (lv_at hl 1 rfl) ?_
  replace hf := zb_s hf
  obtain ⟨r1, hr1, hf⟩ := hf
  refine z_Ni (rest := []) C0 kX1_105 (c_X6_isSpan l D G p1 r1 hr1) (List.Perm.refl _) (List.Perm.refl _) rfl ⟨Nat.le_of_ble_eq_true rfl, Nat.le_of_ble_eq_true rfl⟩ (Nat.le_of_ble_eq_true rfl) rfl hl.1 hP hD hS dX1_takeSpot_1 (fun H locs hP hD hS => ?_)
  refine lv_if_ne (tgt := 9) hx hb dX1_takeSpot_4 (by decide) (fun c4 => ?_) (fun c4 => ?_)
  · replace hf := zi_n hf c4
    refine lv_iload_n hx hb dX1_takeSpot_9 rfl (lv_at hl 2 rfl) ?_
    refine lv_iconst (v := 1) hx hb dX1_takeSpot_10 (by decide) ?_
    refine lv_icmp_lt (tgt := 20) hx hb dX1_takeSpot_11 (by decide) (fun c11 => ?_) (fun c11 => ?_)
    · replace hf := zi_p hf c11
      refine lv_bipush (v := (-2)) hx hb dX1_takeSpot_20 (by decide) ?_
      obtain rfl := zo hf
      exact hret _ _ _ _ _ hP hD hS rfl dX1_takeSpot_22
    · replace hf := zi_n hf c11
      refine lv_iload_n hx hb dX1_takeSpot_14 rfl (lv_at hl 2 rfl) ?_
      refine lv_bipush (v := 9) hx hb dX1_takeSpot_15 (by decide) ?_
      refine lv_icmp_le (tgt := 23) hx hb dX1_takeSpot_17 (by decide) (fun c17 => ?_) (fun c17 => ?_)
      · replace hf := zi_p hf c17
        refine lv_aload_n hx hb dX1_takeSpot_23 rfl (lv_at hl 0 rfl) ?_
        refine va_get (D := D) (ci := 2) (v := .ref (ad (b + 3))) (C := RX1) (T := TX1) (N := 17) hx hb hW inlX1 hown hK hP 0 rfl rfl 2 (by decide) (hW _ wd_39) (fun _ h9 => h9) rfl dX1_takeSpot_24 ?_
        refine lv_iload_n hx hb dX1_takeSpot_27 rfl (lv_at hl 1 rfl) ?_
        refine lv_iload_n hx hb dX1_takeSpot_28 rfl (lv_at hl 2 rfl) ?_
        replace hf := zb_s hf
        obtain ⟨r29, hr29, hf⟩ := hf
        refine z_Vi (rest := []) C0 kX1_108 (c_X5_append l D G ad (b + 3) u.2.2.1 p1 p2 r29 hr29) (pmX1_spots G ad (b) u) (pnX1_spots G ad (b) u r29.2) (ci := 6) (T := TX5) (N := 3) rfl rfl rfl ⟨Nat.le_of_ble_eq_true rfl, Nat.le_of_ble_eq_true rfl⟩ (Nat.le_of_ble_eq_true rfl) rfl hl.1 hP hD hS dX1_takeSpot_29 (fun H locs hP hD hS => ?_)
        replace hP : va_P D vwCl (wX1 G ad b (u.1, u.2.1, r29.2, u.2.2.2.1, u.2.2.2.2.1, u.2.2.2.2.2.1, u.2.2.2.2.2.2.1, u.2.2.2.2.2.2.2.1, u.2.2.2.2.2.2.2.2.1, u.2.2.2.2.2.2.2.2.2.1, u.2.2.2.2.2.2.2.2.2.2.1, u.2.2.2.2.2.2.2.2.2.2.2.1, u.2.2.2.2.2.2.2.2.2.2.2.2.1, u.2.2.2.2.2.2.2.2.2.2.2.2.2.1, u.2.2.2.2.2.2.2.2.2.2.2.2.2.2.1, u.2.2.2.2.2.2.2.2.2.2.2.2.2.2.2.1, u.2.2.2.2.2.2.2.2.2.2.2.2.2.2.2.2)) H := hP
        replace hD : va_D A (wX1 G ad b (u.1, u.2.1, r29.2, u.2.2.2.1, u.2.2.2.2.1, u.2.2.2.2.2.1, u.2.2.2.2.2.2.1, u.2.2.2.2.2.2.2.1, u.2.2.2.2.2.2.2.2.1, u.2.2.2.2.2.2.2.2.2.1, u.2.2.2.2.2.2.2.2.2.2.1, u.2.2.2.2.2.2.2.2.2.2.2.1, u.2.2.2.2.2.2.2.2.2.2.2.2.1, u.2.2.2.2.2.2.2.2.2.2.2.2.2.1, u.2.2.2.2.2.2.2.2.2.2.2.2.2.2.1, u.2.2.2.2.2.2.2.2.2.2.2.2.2.2.2.1, u.2.2.2.2.2.2.2.2.2.2.2.2.2.2.2.2)) := hD
        refine lv_if_ne (tgt := 38) hx hb dX1_takeSpot_32 (by decide) (fun c32 => ?_) (fun c32 => ?_)
        · replace hf := zi_n hf c32
          refine lv_aload_n hx hb dX1_takeSpot_38 rfl (lv_at hl 0 rfl) ?_
          refine va_get (D := D) (ci := 2) (v := .ref (ad (b + 3))) (C := RX1) (T := TX1) (N := 17) hx hb hW inlX1 hown hK hP 0 rfl rfl 2 (by decide) (hW _ wd_39) (fun _ h9 => h9) rfl dX1_takeSpot_39 ?_
          refine lv_iload_n hx hb dX1_takeSpot_42 rfl (lv_at hl 1 rfl) ?_
          replace hf := zb_s hf
          obtain ⟨r43, hr43, hf⟩ := hf
          refine z_Vi (rest := []) C0 kX1_112 (c_X5_sizeOf l D G ad (b + 3) r29.2 p1 r43 hr43) (pmX1_spots G ad (b) (u.1, u.2.1, r29.2, u.2.2.2.1, u.2.2.2.2.1, u.2.2.2.2.2.1, u.2.2.2.2.2.2.1, u.2.2.2.2.2.2.2.1, u.2.2.2.2.2.2.2.2.1, u.2.2.2.2.2.2.2.2.2.1, u.2.2.2.2.2.2.2.2.2.2.1, u.2.2.2.2.2.2.2.2.2.2.2.1, u.2.2.2.2.2.2.2.2.2.2.2.2.1, u.2.2.2.2.2.2.2.2.2.2.2.2.2.1, u.2.2.2.2.2.2.2.2.2.2.2.2.2.2.1, u.2.2.2.2.2.2.2.2.2.2.2.2.2.2.2.1, u.2.2.2.2.2.2.2.2.2.2.2.2.2.2.2.2)) ((pmX1_spots G ad (b) (u.1, u.2.1, r29.2, u.2.2.2.1, u.2.2.2.2.1, u.2.2.2.2.2.1, u.2.2.2.2.2.2.1, u.2.2.2.2.2.2.2.1, u.2.2.2.2.2.2.2.2.1, u.2.2.2.2.2.2.2.2.2.1, u.2.2.2.2.2.2.2.2.2.2.1, u.2.2.2.2.2.2.2.2.2.2.2.1, u.2.2.2.2.2.2.2.2.2.2.2.2.1, u.2.2.2.2.2.2.2.2.2.2.2.2.2.1, u.2.2.2.2.2.2.2.2.2.2.2.2.2.2.1, u.2.2.2.2.2.2.2.2.2.2.2.2.2.2.2.1, u.2.2.2.2.2.2.2.2.2.2.2.2.2.2.2.2))).symm (ci := 6) (T := TX5) (N := 3) rfl rfl rfl ⟨Nat.le_of_ble_eq_true rfl, Nat.le_of_ble_eq_true rfl⟩ (Nat.le_of_ble_eq_true rfl) rfl hl.1 hP hD hS dX1_takeSpot_43 (fun H locs hP hD hS => ?_)
          obtain rfl := zo hf
          exact hret _ _ _ _ _ hP hD hS rfl dX1_takeSpot_46
        · replace hf := zi_p hf c32
          refine lv_bipush (v := (-4)) hx hb dX1_takeSpot_35 (by decide) ?_
          obtain rfl := zo hf
          exact hret _ _ _ _ _ hP hD hS rfl dX1_takeSpot_37
      · replace hf := zi_n hf c17
        refine lv_bipush (v := (-2)) hx hb dX1_takeSpot_20 (by decide) ?_
        obtain rfl := zo hf
        exact hret _ _ _ _ _ hP hD hS rfl dX1_takeSpot_22
  · replace hf := zi_p hf c4
    refine lv_iconst (v := (-1)) hx hb dX1_takeSpot_7 (by decide) ?_
    obtain rfl := zo hf
    exact hret _ _ _ _ _ hP hD hS rfl dX1_takeSpot_8
theorem kX1_116 : zLkV RX1 116 yX0_placeOf cX0_placeOf 3 (some .int) 1 := ⟨⟨wd_274, wd_275, wd_276, wd_42, wd_277⟩, by decide +kernel⟩
theorem kX1_119 : zLkV RX1 119 yX0_append cX0_append 2 (some .boolean) 1 := ⟨⟨wd_278, wd_279, wd_280, wd_42, wd_281⟩, by decide +kernel⟩
noncomputable def q_X1_askByHand (u : tX1) (p1 : Int32) : Option (Int32 × tX0) :=
  zb (q_X6_isSpan p1) fun r1 => (if r1 = 0 then some ((-1), u.2.2.2.1) else zb (q_X0_placeOf u.2.2.2.1 p1) fun r14 => (if r14 = (-6) then (if p1 = u.2.2.2.2.2.2.2.2.2.1 then some ((-3), u.2.2.2.1) else zb (q_X0_append u.2.2.2.1 p1) fun r38 => (if r38.1 = 0 then some ((-4), r38.2) else some ((r38.2.2 - 1), r38.2))) else some ((-3), u.2.2.2.1)))
set_option maxRecDepth 100000 in
set_option maxHeartbeats 4000000 in
theorem c_X1_askByHand (l : Launch) (D : va_G) (G : zG) (ad : Nat → Nat) (b : Nat) (u : tX1) (p1 : Int32) (res : Int32 × tX0) (hf : q_X1_askByHand u p1 = some res) : zMi l yX1_askByHand cX1_askByHand 2 (some .int) 1 22 D G (wX1 G ad b u) (wX1 G ad b (u.1, u.2.1, u.2.2.1, res.2, u.2.2.2.2.1, u.2.2.2.2.2.1, u.2.2.2.2.2.2.1, u.2.2.2.2.2.2.2.1, u.2.2.2.2.2.2.2.2.1, u.2.2.2.2.2.2.2.2.2.1, u.2.2.2.2.2.2.2.2.2.2.1, u.2.2.2.2.2.2.2.2.2.2.2.1, u.2.2.2.2.2.2.2.2.2.2.2.2.1, u.2.2.2.2.2.2.2.2.2.2.2.2.2.1, u.2.2.2.2.2.2.2.2.2.2.2.2.2.2.1, u.2.2.2.2.2.2.2.2.2.2.2.2.2.2.2.1, u.2.2.2.2.2.2.2.2.2.2.2.2.2.2.2.2)) [.ref (ad b), .int p1] res.1 := by
  refine zs_i (plainFor_of_name (by decide)) (Nat.le_of_ble_eq_true rfl) ?_
  intro p e s m args below meth c A Q H ls C0 hret hP hD hS hl
  obtain ⟨hx, hb, hml, hown, hW, hK, hlocks, hF, hr, hA⟩ := id C0
  replace hl : lv_has ls 2 [(0, .ref (ad b)), (1, .int p1)] := hl
  unfold q_X1_askByHand at hf
  refine lv_iload_n hx hb dX1_askByHand_0 rfl (lv_at hl 1 rfl) ?_
  replace hf := zb_s hf
  obtain ⟨r1, hr1, hf⟩ := hf
  refine z_Ni (rest := []) C0 kX1_105 (c_X6_isSpan l D G p1 r1 hr1) (List.Perm.refl _) (List.Perm.refl _) rfl ⟨Nat.le_of_ble_eq_true rfl, Nat.le_of_ble_eq_true rfl⟩ (Nat.le_of_ble_eq_true rfl) rfl hl.1 hP hD hS dX1_askByHand_1 (fun H locs hP hD hS => ?_)
  refine lv_if_ne (tgt := 9) hx hb dX1_askByHand_4 (by decide) (fun c4 => ?_) (fun c4 => ?_)
  · replace hf := zi_n hf c4
    refine lv_aload_n hx hb dX1_askByHand_9 rfl (lv_at hl 0 rfl) ?_
    refine va_get (D := D) (ci := 2) (v := .ref (ad (b + 6))) (C := RX1) (T := TX1) (N := 17) hx hb hW inlX1 hown hK hP 0 rfl rfl 3 (by decide) (hW _ wd_43) (fun _ h9 => h9) rfl dX1_askByHand_10 ?_
    refine lv_iload_n hx hb dX1_askByHand_13 rfl (lv_at hl 1 rfl) ?_
    replace hf := zb_s hf
    obtain ⟨r14, hr14, hf⟩ := hf
    refine z_Vi (rest := []) C0 kX1_116 (c_X0_placeOf l D G ad (b + 6) u.2.2.2.1 p1 r14 hr14) (pmX1_asked G ad (b) u) ((pmX1_asked G ad (b) u)).symm (ci := 1) (T := TX0) (N := 2) rfl rfl rfl ⟨Nat.le_of_ble_eq_true rfl, Nat.le_of_ble_eq_true rfl⟩ (Nat.le_of_ble_eq_true rfl) rfl hl.1 hP hD hS dX1_askByHand_14 (fun H locs hP hD hS => ?_)
    refine lv_bipush (v := (-6)) hx hb dX1_askByHand_17 (by decide) ?_
    refine lv_icmp_ne (tgt := 30) hx hb dX1_askByHand_19 (by decide) (fun c19 => ?_) (fun c19 => ?_)
    · replace hf := zi_n hf c19
      refine lv_bipush (v := (-3)) hx hb dX1_askByHand_30 (by decide) ?_
      obtain rfl := zo hf
      exact hret _ _ _ _ _ hP hD hS rfl dX1_askByHand_32
    · replace hf := zi_p hf c19
      refine lv_iload_n hx hb dX1_askByHand_22 rfl (lv_at hl 1 rfl) ?_
      refine lv_aload_n hx hb dX1_askByHand_23 rfl (lv_at hl 0 rfl) ?_
      refine va_get (D := D) (ci := 2) (v := .int u.2.2.2.2.2.2.2.2.2.1) (C := RX1) (T := TX1) (N := 17) hx hb hW inlX1 hown hK hP 0 rfl rfl 9 (by decide) (hW _ wd_52) (fun _ h9 => h9) rfl dX1_askByHand_24 ?_
      refine lv_icmp_ne (tgt := 33) hx hb dX1_askByHand_27 (by decide) (fun c27 => ?_) (fun c27 => ?_)
      · replace hf := zi_n hf c27
        refine lv_aload_n hx hb dX1_askByHand_33 rfl (lv_at hl 0 rfl) ?_
        refine va_get (D := D) (ci := 2) (v := .ref (ad (b + 6))) (C := RX1) (T := TX1) (N := 17) hx hb hW inlX1 hown hK hP 0 rfl rfl 3 (by decide) (hW _ wd_43) (fun _ h9 => h9) rfl dX1_askByHand_34 ?_
        refine lv_iload_n hx hb dX1_askByHand_37 rfl (lv_at hl 1 rfl) ?_
        replace hf := zb_s hf
        obtain ⟨r38, hr38, hf⟩ := hf
        refine z_Vi (rest := []) C0 kX1_119 (c_X0_append l D G ad (b + 6) u.2.2.2.1 p1 r38 hr38) (pmX1_asked G ad (b) u) (pnX1_asked G ad (b) u r38.2) (ci := 1) (T := TX0) (N := 2) rfl rfl rfl ⟨Nat.le_of_ble_eq_true rfl, Nat.le_of_ble_eq_true rfl⟩ (Nat.le_of_ble_eq_true rfl) rfl hl.1 hP hD hS dX1_askByHand_38 (fun H locs hP hD hS => ?_)
        replace hP : va_P D vwCl (wX1 G ad b (u.1, u.2.1, u.2.2.1, r38.2, u.2.2.2.2.1, u.2.2.2.2.2.1, u.2.2.2.2.2.2.1, u.2.2.2.2.2.2.2.1, u.2.2.2.2.2.2.2.2.1, u.2.2.2.2.2.2.2.2.2.1, u.2.2.2.2.2.2.2.2.2.2.1, u.2.2.2.2.2.2.2.2.2.2.2.1, u.2.2.2.2.2.2.2.2.2.2.2.2.1, u.2.2.2.2.2.2.2.2.2.2.2.2.2.1, u.2.2.2.2.2.2.2.2.2.2.2.2.2.2.1, u.2.2.2.2.2.2.2.2.2.2.2.2.2.2.2.1, u.2.2.2.2.2.2.2.2.2.2.2.2.2.2.2.2)) H := hP
        replace hD : va_D A (wX1 G ad b (u.1, u.2.1, u.2.2.1, r38.2, u.2.2.2.2.1, u.2.2.2.2.2.1, u.2.2.2.2.2.2.1, u.2.2.2.2.2.2.2.1, u.2.2.2.2.2.2.2.2.1, u.2.2.2.2.2.2.2.2.2.1, u.2.2.2.2.2.2.2.2.2.2.1, u.2.2.2.2.2.2.2.2.2.2.2.1, u.2.2.2.2.2.2.2.2.2.2.2.2.1, u.2.2.2.2.2.2.2.2.2.2.2.2.2.1, u.2.2.2.2.2.2.2.2.2.2.2.2.2.2.1, u.2.2.2.2.2.2.2.2.2.2.2.2.2.2.2.1, u.2.2.2.2.2.2.2.2.2.2.2.2.2.2.2.2)) := hD
        refine lv_if_ne (tgt := 47) hx hb dX1_askByHand_41 (by decide) (fun c41 => ?_) (fun c41 => ?_)
        · replace hf := zi_n hf c41
          refine lv_aload_n hx hb dX1_askByHand_47 rfl (lv_at hl 0 rfl) ?_
          refine va_get (D := D) (ci := 2) (v := .ref (ad (b + 6))) (C := RX1) (T := TX1) (N := 17) hx hb hW inlX1 hown hK hP 0 rfl rfl 3 (by decide) (hW _ wd_43) (fun _ h9 => h9) rfl dX1_askByHand_48 ?_
          refine va_getN (host := "QuietChecks") (D := D) (ci := 1) (v := .int r38.2.2) (C := RX0) (T := TX0) (N := 2) hx hb hW inlX0 hown hK hP 6 rfl rfl 1 (by decide) (va_Nw.use rfl (hF.1 _ (by decide +kernel : Cond.fieldLinkNest "QuietChecks$Disk" 121 "QuietChecks$Asked" "size" "I" "QuietChecks" ∈ zNest))) (fun _ h9 => h9) rfl dX1_askByHand_51 ?_
          refine lv_iconst (v := 1) hx hb dX1_askByHand_54 (by decide) ?_
          refine lv_isub hx hb dX1_askByHand_55 ?_
          obtain rfl := zo hf
          exact hret _ _ _ _ _ hP hD hS rfl dX1_askByHand_56
        · replace hf := zi_p hf c41
          refine lv_bipush (v := (-4)) hx hb dX1_askByHand_44 (by decide) ?_
          obtain rfl := zo hf
          exact hret _ _ _ _ _ hP hD hS rfl dX1_askByHand_46
      · replace hf := zi_p hf c27
        refine lv_bipush (v := (-3)) hx hb dX1_askByHand_30 (by decide) ?_
        obtain rfl := zo hf
        exact hret _ _ _ _ _ hP hD hS rfl dX1_askByHand_32
  · replace hf := zi_p hf c4
    refine lv_iconst (v := (-1)) hx hb dX1_askByHand_7 (by decide) ?_
    obtain rfl := zo hf
    exact hret _ _ _ _ _ hP hD hS rfl dX1_askByHand_8
theorem kX1_124 : zLkV RX1 124 yX0_drop cX0_drop 4 (some .boolean) 1 := ⟨⟨wd_306, wd_307, wd_308, wd_42, wd_309⟩, by decide +kernel⟩
noncomputable def q_X1_withdraw (u : tX1) (p1 : Int32) : Option (Int32 × tX0) :=
  zb (q_X6_isSpan p1) fun r1 => (if r1 = 0 then some ((-1), u.2.2.2.1) else zb (q_X0_drop u.2.2.2.1 p1) fun r14 => (if r14.1 = 0 then some ((-3), r14.2) else some (r14.2.2, r14.2)))
set_option maxRecDepth 100000 in
set_option maxHeartbeats 4000000 in
theorem c_X1_withdraw (l : Launch) (D : va_G) (G : zG) (ad : Nat → Nat) (b : Nat) (u : tX1) (p1 : Int32) (res : Int32 × tX0) (hf : q_X1_withdraw u p1 = some res) : zMi l yX1_withdraw cX1_withdraw 2 (some .int) 2 45 D G (wX1 G ad b u) (wX1 G ad b (u.1, u.2.1, u.2.2.1, res.2, u.2.2.2.2.1, u.2.2.2.2.2.1, u.2.2.2.2.2.2.1, u.2.2.2.2.2.2.2.1, u.2.2.2.2.2.2.2.2.1, u.2.2.2.2.2.2.2.2.2.1, u.2.2.2.2.2.2.2.2.2.2.1, u.2.2.2.2.2.2.2.2.2.2.2.1, u.2.2.2.2.2.2.2.2.2.2.2.2.1, u.2.2.2.2.2.2.2.2.2.2.2.2.2.1, u.2.2.2.2.2.2.2.2.2.2.2.2.2.2.1, u.2.2.2.2.2.2.2.2.2.2.2.2.2.2.2.1, u.2.2.2.2.2.2.2.2.2.2.2.2.2.2.2.2)) [.ref (ad b), .int p1] res.1 := by
  refine zs_i (plainFor_of_name (by decide)) (Nat.le_of_ble_eq_true rfl) ?_
  intro p e s m args below meth c A Q H ls C0 hret hP hD hS hl
  obtain ⟨hx, hb, hml, hown, hW, hK, hlocks, hF, hr, hA⟩ := id C0
  replace hl : lv_has ls 2 [(0, .ref (ad b)), (1, .int p1)] := hl
  unfold q_X1_withdraw at hf
  refine lv_iload_n hx hb dX1_withdraw_0 rfl (lv_at hl 1 rfl) ?_
  replace hf := zb_s hf
  obtain ⟨r1, hr1, hf⟩ := hf
  refine z_Ni (rest := []) C0 kX1_105 (c_X6_isSpan l D G p1 r1 hr1) (List.Perm.refl _) (List.Perm.refl _) rfl ⟨Nat.le_of_ble_eq_true rfl, Nat.le_of_ble_eq_true rfl⟩ (Nat.le_of_ble_eq_true rfl) rfl hl.1 hP hD hS dX1_withdraw_1 (fun H locs hP hD hS => ?_)
  refine lv_if_ne (tgt := 9) hx hb dX1_withdraw_4 (by decide) (fun c4 => ?_) (fun c4 => ?_)
  · replace hf := zi_n hf c4
    refine lv_aload_n hx hb dX1_withdraw_9 rfl (lv_at hl 0 rfl) ?_
    refine va_get (D := D) (ci := 2) (v := .ref (ad (b + 6))) (C := RX1) (T := TX1) (N := 17) hx hb hW inlX1 hown hK hP 0 rfl rfl 3 (by decide) (hW _ wd_43) (fun _ h9 => h9) rfl dX1_withdraw_10 ?_
    refine lv_iload_n hx hb dX1_withdraw_13 rfl (lv_at hl 1 rfl) ?_
    replace hf := zb_s hf
    obtain ⟨r14, hr14, hf⟩ := hf
    refine z_Vi (rest := []) C0 kX1_124 (c_X0_drop l D G ad (b + 6) u.2.2.2.1 p1 r14 hr14) (pmX1_asked G ad (b) u) (pnX1_asked G ad (b) u r14.2) (ci := 1) (T := TX0) (N := 2) rfl rfl rfl ⟨Nat.le_of_ble_eq_true rfl, Nat.le_of_ble_eq_true rfl⟩ (Nat.le_of_ble_eq_true rfl) rfl hl.1 hP hD hS dX1_withdraw_14 (fun H locs hP hD hS => ?_)
    replace hP : va_P D vwCl (wX1 G ad b (u.1, u.2.1, u.2.2.1, r14.2, u.2.2.2.2.1, u.2.2.2.2.2.1, u.2.2.2.2.2.2.1, u.2.2.2.2.2.2.2.1, u.2.2.2.2.2.2.2.2.1, u.2.2.2.2.2.2.2.2.2.1, u.2.2.2.2.2.2.2.2.2.2.1, u.2.2.2.2.2.2.2.2.2.2.2.1, u.2.2.2.2.2.2.2.2.2.2.2.2.1, u.2.2.2.2.2.2.2.2.2.2.2.2.2.1, u.2.2.2.2.2.2.2.2.2.2.2.2.2.2.1, u.2.2.2.2.2.2.2.2.2.2.2.2.2.2.2.1, u.2.2.2.2.2.2.2.2.2.2.2.2.2.2.2.2)) H := hP
    replace hD : va_D A (wX1 G ad b (u.1, u.2.1, u.2.2.1, r14.2, u.2.2.2.2.1, u.2.2.2.2.2.1, u.2.2.2.2.2.2.1, u.2.2.2.2.2.2.2.1, u.2.2.2.2.2.2.2.2.1, u.2.2.2.2.2.2.2.2.2.1, u.2.2.2.2.2.2.2.2.2.2.1, u.2.2.2.2.2.2.2.2.2.2.2.1, u.2.2.2.2.2.2.2.2.2.2.2.2.1, u.2.2.2.2.2.2.2.2.2.2.2.2.2.1, u.2.2.2.2.2.2.2.2.2.2.2.2.2.2.1, u.2.2.2.2.2.2.2.2.2.2.2.2.2.2.2.1, u.2.2.2.2.2.2.2.2.2.2.2.2.2.2.2.2)) := hD
    refine lv_if_ne (tgt := 23) hx hb dX1_withdraw_17 (by decide) (fun c17 => ?_) (fun c17 => ?_)
    · replace hf := zi_n hf c17
      refine lv_aload_n hx hb dX1_withdraw_23 rfl (lv_at hl 0 rfl) ?_
      refine va_get (D := D) (ci := 2) (v := .ref (ad (b + 6))) (C := RX1) (T := TX1) (N := 17) hx hb hW inlX1 hown hK hP 0 rfl rfl 3 (by decide) (hW _ wd_43) (fun _ h9 => h9) rfl dX1_withdraw_24 ?_
      refine va_getN (host := "QuietChecks") (D := D) (ci := 1) (v := .int r14.2.2) (C := RX0) (T := TX0) (N := 2) hx hb hW inlX0 hown hK hP 6 rfl rfl 1 (by decide) (va_Nw.use rfl (hF.1 _ (by decide +kernel : Cond.fieldLinkNest "QuietChecks$Disk" 121 "QuietChecks$Asked" "size" "I" "QuietChecks" ∈ zNest))) (fun _ h9 => h9) rfl dX1_withdraw_27 ?_
      obtain rfl := zo hf
      exact hret _ _ _ _ _ hP hD hS rfl dX1_withdraw_30
    · replace hf := zi_p hf c17
      refine lv_bipush (v := (-3)) hx hb dX1_withdraw_20 (by decide) ?_
      obtain rfl := zo hf
      exact hret _ _ _ _ _ hP hD hS rfl dX1_withdraw_22
  · replace hf := zi_p hf c4
    refine lv_iconst (v := (-1)) hx hb dX1_withdraw_7 (by decide) ?_
    obtain rfl := zo hf
    exact hret _ _ _ _ _ hP hD hS rfl dX1_withdraw_8
theorem kX1_134 : zLkV RX1 134 yX3_append cX3_append 4 none 3 := ⟨⟨wd_336, wd_337, wd_338, wd_46, wd_339⟩, by decide +kernel⟩
noncomputable def q_X1_pauseCheck (u : tX1) : Option (tX3 × Int32 × Int32) :=
  zn (if 0 < (u.2.2.2.2.2.2.2.2.2.2.1 - 2) then (u.2.2.2.2.2.2.2.2.2.2.1 - 2) else 0) fun k8 => zn (u.2.2.2.2.2.2.2.2.2.2.2.2.2.2.1 + 1) fun k21 => zb (q_X3_append u.2.2.2.2.1 u.2.2.2.2.2.2.2.1 2 u.2.2.2.2.2.2.2.2.2.1) fun r37 => some (r37, k8, k21)
set_option maxRecDepth 100000 in
set_option maxHeartbeats 4000000 in
theorem c_X1_pauseCheck (l : Launch) (D : va_G) (G : zG) (ad : Nat → Nat) (b : Nat) (u : tX1) (res : tX3 × Int32 × Int32) (hf : q_X1_pauseCheck u = some res) : zMv l yX1_pauseCheck cX1_pauseCheck 1 none 1 32 D G (wX1 G ad b u) (wX1 G ad b (u.1, u.2.1, u.2.2.1, u.2.2.2.1, res.1, u.2.2.2.2.2.1, u.2.2.2.2.2.2.1, u.2.2.2.2.2.2.2.1, u.2.2.2.2.2.2.2.2.1, u.2.2.2.2.2.2.2.2.2.1, res.2.1, u.2.2.2.2.2.2.2.2.2.2.2.1, u.2.2.2.2.2.2.2.2.2.2.2.2.1, u.2.2.2.2.2.2.2.2.2.2.2.2.2.1, res.2.2, u.2.2.2.2.2.2.2.2.2.2.2.2.2.2.2.1, u.2.2.2.2.2.2.2.2.2.2.2.2.2.2.2.2)) [.ref (ad b)] := by
  refine zs_v (plainFor_of_name (by decide)) (Nat.le_of_ble_eq_true rfl) ?_
  intro p e s m args below meth c A Q H ls C0 hret hP hD hS hl
  obtain ⟨hx, hb, hml, hown, hW, hK, hlocks, hF, hr, hA⟩ := id C0
  replace hl : lv_has ls 1 [(0, .ref (ad b))] := hl
  unfold q_X1_pauseCheck at hf
  refine lv_aload_n hx hb dX1_pauseCheck_0 rfl (lv_at hl 0 rfl) ?_
  refine lv_iconst (v := 0) hx hb dX1_pauseCheck_1 (by decide) ?_
  refine lv_aload_n hx hb dX1_pauseCheck_2 rfl (lv_at hl 0 rfl) ?_
  refine va_get (D := D) (ci := 2) (v := .int u.2.2.2.2.2.2.2.2.2.2.1) (C := RX1) (T := TX1) (N := 17) hx hb hW inlX1 hown hK hP 0 rfl rfl 10 (by decide) (hW _ wd_53) (fun _ h9 => h9) rfl dX1_pauseCheck_3 ?_
  refine lv_iconst (v := 2) hx hb dX1_pauseCheck_6 (by decide) ?_
  refine lv_isub hx hb dX1_pauseCheck_7 ?_
  refine va_mmax hx hb (hml.trans hl.1.symm) hown (hW _ wd_332) (hW _ wd_333) (hW _ wd_334) (hW _ wd_335) (Nat.le_of_ble_eq_true rfl) (Nat.le_of_ble_eq_true rfl) (Nat.zero_le _) (Nat.zero_le _) dX1_pauseCheck_8 ?_
  replace hf := zn_s hf
  obtain ⟨k8, ek8, hf⟩ := hf
  refine z_top ek8 ?_
  refine z_put (ws' := wX1 G ad b (u.1, u.2.1, u.2.2.1, u.2.2.2.1, u.2.2.2.2.1, u.2.2.2.2.2.1, u.2.2.2.2.2.2.1, u.2.2.2.2.2.2.2.1, u.2.2.2.2.2.2.2.2.1, u.2.2.2.2.2.2.2.2.2.1, k8, u.2.2.2.2.2.2.2.2.2.2.2.1, u.2.2.2.2.2.2.2.2.2.2.2.2.1, u.2.2.2.2.2.2.2.2.2.2.2.2.2.1, u.2.2.2.2.2.2.2.2.2.2.2.2.2.2.1, u.2.2.2.2.2.2.2.2.2.2.2.2.2.2.2.1, u.2.2.2.2.2.2.2.2.2.2.2.2.2.2.2.2)) (ci := 2) (C := RX1) (T := TX1) (N := 17) hx hb hW inlX1 tyX1 tyX1_ok nmX1 hown hK hP hD hS 0 rfl rfl 10 (by decide) (hW _ wd_53) rfl rfl (Nat.le_of_ble_eq_true rfl) rfl dX1_pauseCheck_11 (fun H locs hP hD hS => ?_)
  refine lv_aload_n hx hb dX1_pauseCheck_14 rfl (lv_at hl 0 rfl) ?_
  refine lv_dup hx hb dX1_pauseCheck_15 rfl ?_
  refine va_get (D := D) (ci := 2) (v := .int u.2.2.2.2.2.2.2.2.2.2.2.2.2.2.1) (C := RX1) (T := TX1) (N := 17) hx hb hW inlX1 hown hK hP 0 rfl rfl 14 (by decide) (hW _ wd_57) (fun _ h9 => h9) rfl dX1_pauseCheck_16 ?_
  refine lv_iconst (v := 1) hx hb dX1_pauseCheck_19 (by decide) ?_
  refine lv_iadd hx hb dX1_pauseCheck_20 ?_
  replace hf := zn_s hf
  obtain ⟨k21, ek21, hf⟩ := hf
  refine z_top ek21 ?_
  refine z_put (ws' := wX1 G ad b (u.1, u.2.1, u.2.2.1, u.2.2.2.1, u.2.2.2.2.1, u.2.2.2.2.2.1, u.2.2.2.2.2.2.1, u.2.2.2.2.2.2.2.1, u.2.2.2.2.2.2.2.2.1, u.2.2.2.2.2.2.2.2.2.1, k8, u.2.2.2.2.2.2.2.2.2.2.2.1, u.2.2.2.2.2.2.2.2.2.2.2.2.1, u.2.2.2.2.2.2.2.2.2.2.2.2.2.1, k21, u.2.2.2.2.2.2.2.2.2.2.2.2.2.2.2.1, u.2.2.2.2.2.2.2.2.2.2.2.2.2.2.2.2)) (ci := 2) (C := RX1) (T := TX1) (N := 17) hx hb hW inlX1 tyX1 tyX1_ok nmX1 hown hK hP hD hS 0 rfl rfl 14 (by decide) (hW _ wd_57) rfl rfl (Nat.le_of_ble_eq_true rfl) rfl dX1_pauseCheck_21 (fun H locs hP hD hS => ?_)
  refine lv_aload_n hx hb dX1_pauseCheck_24 rfl (lv_at hl 0 rfl) ?_
  refine va_get (D := D) (ci := 2) (v := .ref (ad (b + 8))) (C := RX1) (T := TX1) (N := 17) hx hb hW inlX1 hown hK hP 0 rfl rfl 4 (by decide) (hW _ wd_47) (fun _ h9 => h9) rfl dX1_pauseCheck_25 ?_
  refine lv_aload_n hx hb dX1_pauseCheck_28 rfl (lv_at hl 0 rfl) ?_
  refine va_get (D := D) (ci := 2) (v := .int u.2.2.2.2.2.2.2.1) (C := RX1) (T := TX1) (N := 17) hx hb hW inlX1 hown hK hP 0 rfl rfl 7 (by decide) (hW _ wd_50) (fun _ h9 => h9) rfl dX1_pauseCheck_29 ?_
  refine lv_iconst (v := 2) hx hb dX1_pauseCheck_32 (by decide) ?_
  refine lv_aload_n hx hb dX1_pauseCheck_33 rfl (lv_at hl 0 rfl) ?_
  refine va_get (D := D) (ci := 2) (v := .int u.2.2.2.2.2.2.2.2.2.1) (C := RX1) (T := TX1) (N := 17) hx hb hW inlX1 hown hK hP 0 rfl rfl 9 (by decide) (hW _ wd_52) (fun _ h9 => h9) rfl dX1_pauseCheck_34 ?_
  replace hf := zb_s hf
  obtain ⟨r37, hr37, hf⟩ := hf
  refine z_Vv (rest := []) C0 kX1_134 (c_X3_append l D G ad (b + 8) u.2.2.2.2.1 u.2.2.2.2.2.2.2.1 2 u.2.2.2.2.2.2.2.2.2.1 r37 hr37) (pmX1_log G ad (b) (u.1, u.2.1, u.2.2.1, u.2.2.2.1, u.2.2.2.2.1, u.2.2.2.2.2.1, u.2.2.2.2.2.2.1, u.2.2.2.2.2.2.2.1, u.2.2.2.2.2.2.2.2.1, u.2.2.2.2.2.2.2.2.2.1, k8, u.2.2.2.2.2.2.2.2.2.2.2.1, u.2.2.2.2.2.2.2.2.2.2.2.2.1, u.2.2.2.2.2.2.2.2.2.2.2.2.2.1, k21, u.2.2.2.2.2.2.2.2.2.2.2.2.2.2.2.1, u.2.2.2.2.2.2.2.2.2.2.2.2.2.2.2.2)) (pnX1_log G ad (b) (u.1, u.2.1, u.2.2.1, u.2.2.2.1, u.2.2.2.2.1, u.2.2.2.2.2.1, u.2.2.2.2.2.2.1, u.2.2.2.2.2.2.2.1, u.2.2.2.2.2.2.2.2.1, u.2.2.2.2.2.2.2.2.2.1, k8, u.2.2.2.2.2.2.2.2.2.2.2.1, u.2.2.2.2.2.2.2.2.2.2.2.2.1, u.2.2.2.2.2.2.2.2.2.2.2.2.2.1, k21, u.2.2.2.2.2.2.2.2.2.2.2.2.2.2.2.1, u.2.2.2.2.2.2.2.2.2.2.2.2.2.2.2.2) r37) (ci := 4) (T := TX3) (N := 5) rfl rfl rfl ⟨Nat.le_of_ble_eq_true rfl, Nat.le_of_ble_eq_true rfl⟩ (Nat.le_of_ble_eq_true rfl) rfl hl.1 hP hD hS dX1_pauseCheck_37 (fun H locs hP hD hS => ?_)
  replace hP : va_P D vwCl (wX1 G ad b (u.1, u.2.1, u.2.2.1, u.2.2.2.1, r37, u.2.2.2.2.2.1, u.2.2.2.2.2.2.1, u.2.2.2.2.2.2.2.1, u.2.2.2.2.2.2.2.2.1, u.2.2.2.2.2.2.2.2.2.1, k8, u.2.2.2.2.2.2.2.2.2.2.2.1, u.2.2.2.2.2.2.2.2.2.2.2.2.1, u.2.2.2.2.2.2.2.2.2.2.2.2.2.1, k21, u.2.2.2.2.2.2.2.2.2.2.2.2.2.2.2.1, u.2.2.2.2.2.2.2.2.2.2.2.2.2.2.2.2)) H := hP
  replace hD : va_D A (wX1 G ad b (u.1, u.2.1, u.2.2.1, u.2.2.2.1, r37, u.2.2.2.2.2.1, u.2.2.2.2.2.2.1, u.2.2.2.2.2.2.2.1, u.2.2.2.2.2.2.2.2.1, u.2.2.2.2.2.2.2.2.2.1, k8, u.2.2.2.2.2.2.2.2.2.2.2.1, u.2.2.2.2.2.2.2.2.2.2.2.2.1, u.2.2.2.2.2.2.2.2.2.2.2.2.2.1, k21, u.2.2.2.2.2.2.2.2.2.2.2.2.2.2.2.1, u.2.2.2.2.2.2.2.2.2.2.2.2.2.2.2.2)) := hD
  obtain rfl := zo hf
  exact hret _ _ _ _ hP hD hS dX1_pauseCheck_40
theorem kX1_131 : zLkV RX1 131 yX5_hasWeak cX5_hasWeak 4 (some .boolean) 2 := ⟨⟨wd_340, wd_341, wd_342, wd_38, wd_343⟩, by decide +kernel⟩
theorem kX1_137 : zLkV RX1 137 yX1_askByHand cX1_askByHand 2 (some .int) 1 := ⟨⟨wd_344, wd_271, wd_272, wd_14, wd_273⟩, by decide +kernel⟩
theorem kX1_128 : zLkV RX1 128 yX1_pauseCheck cX1_pauseCheck 1 none 0 := ⟨⟨wd_328, wd_329, wd_330, wd_14, wd_331⟩, by decide +kernel⟩
noncomputable def q_X1_hostReads_J66 (u : tX1) (p1 : Int32) (k50 : Int32) (w66_0 : tX3) (w66_1 : Int32) (w66_2 : Int32) : Option (Int32 × tX1) :=
  zb (q_X5_hasWeak u.2.2.1 p1 (u.1 3)) fun r77 => (if r77 = 0 then some (0, (u.1, u.2.1, u.2.2.1, u.2.2.2.1, w66_0, u.2.2.2.2.2.1, u.2.2.2.2.2.2.1, k50, 0, u.2.2.2.2.2.2.2.2.2.1, w66_1, u.2.2.2.2.2.2.2.2.2.2.2.1, u.2.2.2.2.2.2.2.2.2.2.2.2.1, u.2.2.2.2.2.2.2.2.2.2.2.2.2.1, w66_2, u.2.2.2.2.2.2.2.2.2.2.2.2.2.2.2.1, u.2.2.2.2.2.2.2.2.2.2.2.2.2.2.2.2)) else zn (u.2.2.2.2.2.2.2.2.2.2.2.2.2.2.2.2 + 1) fun k92 => zb (q_X3_append w66_0 k50 6 p1) fun r106 => zb (q_X1_askByHand (u.1, u.2.1, u.2.2.1, u.2.2.2.1, r106, u.2.2.2.2.2.1, u.2.2.2.2.2.2.1, k50, 0, u.2.2.2.2.2.2.2.2.2.1, w66_1, u.2.2.2.2.2.2.2.2.2.2.2.1, u.2.2.2.2.2.2.2.2.2.2.2.2.1, u.2.2.2.2.2.2.2.2.2.2.2.2.2.1, w66_2, u.2.2.2.2.2.2.2.2.2.2.2.2.2.2.2.1, k92) p1) fun r111 => some (1, (u.1, u.2.1, u.2.2.1, r111.2, r106, u.2.2.2.2.2.1, u.2.2.2.2.2.2.1, k50, 0, u.2.2.2.2.2.2.2.2.2.1, w66_1, u.2.2.2.2.2.2.2.2.2.2.2.1, u.2.2.2.2.2.2.2.2.2.2.2.2.1, u.2.2.2.2.2.2.2.2.2.2.2.2.2.1, w66_2, u.2.2.2.2.2.2.2.2.2.2.2.2.2.2.2.1, k92)))
noncomputable def q_X1_hostReads (u : tX1) (p1 : Int32) (p2 : Int32) : Option (Int32 × tX1) :=
  zb (q_X6_isSpan p1) fun r1 => (if r1 = 0 then some ((-1), u) else (if p2 < 1 then some ((-2), u) else (if p2 ≤ 200 then (if (u.2.2.2.2.2.2.2.1 + p2) ≤ 99999 then zn (u.2.2.2.2.2.2.2.1 + p2) fun k50 => (if u.2.2.2.2.2.2.2.2.2.1 = (-6) then q_X1_hostReads_J66 u p1 k50 u.2.2.2.2.1 u.2.2.2.2.2.2.2.2.2.2.1 u.2.2.2.2.2.2.2.2.2.2.2.2.2.2.1 else zb (q_X1_pauseCheck (u.1, u.2.1, u.2.2.1, u.2.2.2.1, u.2.2.2.2.1, u.2.2.2.2.2.1, u.2.2.2.2.2.2.1, k50, 0, u.2.2.2.2.2.2.2.2.2.1, u.2.2.2.2.2.2.2.2.2.2.1, u.2.2.2.2.2.2.2.2.2.2.2.1, u.2.2.2.2.2.2.2.2.2.2.2.2.1, u.2.2.2.2.2.2.2.2.2.2.2.2.2.1, u.2.2.2.2.2.2.2.2.2.2.2.2.2.2.1, u.2.2.2.2.2.2.2.2.2.2.2.2.2.2.2.1, u.2.2.2.2.2.2.2.2.2.2.2.2.2.2.2.2)) fun r63 => q_X1_hostReads_J66 u p1 k50 r63.1 r63.2.1 r63.2.2) else some ((-4), u)) else some ((-2), u))))
set_option maxRecDepth 100000 in
set_option maxHeartbeats 4000000 in
theorem c_X1_hostReads (l : Launch) (D : va_G) (G : zG) (ad : Nat → Nat) (b : Nat) (u : tX1) (p1 : Int32) (p2 : Int32) (res : Int32 × tX1) (hf : q_X1_hostReads u p1 p2 = some res) : zMi l yX1_hostReads cX1_hostReads 3 (some .int) 2 52 D G (wX1 G ad b u) (wX1 G ad b res.2) [.ref (ad b), .int p1, .int p2] res.1 := by
  refine zs_i (plainFor_of_name (by decide)) (Nat.le_of_ble_eq_true rfl) ?_
  intro p e s m args below meth c A Q H ls C0 hret hP hD hS hl
  obtain ⟨hx, hb, hml, hown, hW, hK, hlocks, hF, hr, hA⟩ := id C0
  replace hl : lv_has ls 3 [(0, .ref (ad b)), (1, .int p1), (2, .int p2)] := hl
  unfold q_X1_hostReads at hf
  refine lv_iload_n hx hb dX1_hostReads_0 rfl (lv_at hl 1 rfl) ?_
  replace hf := zb_s hf
  obtain ⟨r1, hr1, hf⟩ := hf
  refine z_Ni (rest := []) C0 kX1_105 (c_X6_isSpan l D G p1 r1 hr1) (List.Perm.refl _) (List.Perm.refl _) rfl ⟨Nat.le_of_ble_eq_true rfl, Nat.le_of_ble_eq_true rfl⟩ (Nat.le_of_ble_eq_true rfl) rfl hl.1 hP hD hS dX1_hostReads_1 (fun H locs hP hD hS => ?_)
  refine lv_if_ne (tgt := 9) hx hb dX1_hostReads_4 (by decide) (fun c4 => ?_) (fun c4 => ?_)
  · replace hf := zi_n hf c4
    refine lv_iload_n hx hb dX1_hostReads_9 rfl (lv_at hl 2 rfl) ?_
    refine lv_iconst (v := 1) hx hb dX1_hostReads_10 (by decide) ?_
    refine lv_icmp_lt (tgt := 21) hx hb dX1_hostReads_11 (by decide) (fun c11 => ?_) (fun c11 => ?_)
    · replace hf := zi_p hf c11
      refine lv_bipush (v := (-2)) hx hb dX1_hostReads_21 (by decide) ?_
      obtain rfl := zo hf
      exact hret _ _ _ _ _ hP hD hS rfl dX1_hostReads_23
    · replace hf := zi_n hf c11
      refine lv_iload_n hx hb dX1_hostReads_14 rfl (lv_at hl 2 rfl) ?_
      refine lv_sipush (v := 200) hx hb dX1_hostReads_15 (by decide) ?_
      refine lv_icmp_le (tgt := 24) hx hb dX1_hostReads_18 (by decide) (fun c18 => ?_) (fun c18 => ?_)
      · replace hf := zi_p hf c18
        refine lv_aload_n hx hb dX1_hostReads_24 rfl (lv_at hl 0 rfl) ?_
        refine va_get (D := D) (ci := 2) (v := .int u.2.2.2.2.2.2.2.1) (C := RX1) (T := TX1) (N := 17) hx hb hW inlX1 hown hK hP 0 rfl rfl 7 (by decide) (hW _ wd_50) (fun _ h9 => h9) rfl dX1_hostReads_25 ?_
        refine lv_iload_n hx hb dX1_hostReads_28 rfl (lv_at hl 2 rfl) ?_
        refine lv_iadd hx hb dX1_hostReads_29 ?_
        refine lv_ldc hx hb hown (hW _ wd_327) dX1_hostReads_30 ?_
        refine lv_icmp_le (tgt := 38) hx hb dX1_hostReads_32 (by decide) (fun c32 => ?_) (fun c32 => ?_)
        · replace hf := zi_p hf c32
          refine lv_aload_n hx hb dX1_hostReads_38 rfl (lv_at hl 0 rfl) ?_
          refine lv_iconst (v := 0) hx hb dX1_hostReads_39 (by decide) ?_
          refine z_put (ws' := wX1 G ad b (u.1, u.2.1, u.2.2.1, u.2.2.2.1, u.2.2.2.2.1, u.2.2.2.2.2.1, u.2.2.2.2.2.2.1, u.2.2.2.2.2.2.2.1, 0, u.2.2.2.2.2.2.2.2.2.1, u.2.2.2.2.2.2.2.2.2.2.1, u.2.2.2.2.2.2.2.2.2.2.2.1, u.2.2.2.2.2.2.2.2.2.2.2.2.1, u.2.2.2.2.2.2.2.2.2.2.2.2.2.1, u.2.2.2.2.2.2.2.2.2.2.2.2.2.2.1, u.2.2.2.2.2.2.2.2.2.2.2.2.2.2.2.1, u.2.2.2.2.2.2.2.2.2.2.2.2.2.2.2.2)) (ci := 2) (C := RX1) (T := TX1) (N := 17) hx hb hW inlX1 tyX1 tyX1_ok nmX1 hown hK hP hD hS 0 rfl rfl 8 (by decide) (hW _ wd_51) rfl rfl (Nat.le_of_ble_eq_true rfl) rfl dX1_hostReads_40 (fun H locs hP hD hS => ?_)
          refine lv_aload_n hx hb dX1_hostReads_43 rfl (lv_at hl 0 rfl) ?_
          refine lv_dup hx hb dX1_hostReads_44 rfl ?_
          refine va_get (D := D) (ci := 2) (v := .int u.2.2.2.2.2.2.2.1) (C := RX1) (T := TX1) (N := 17) hx hb hW inlX1 hown hK hP 0 rfl rfl 7 (by decide) (hW _ wd_50) (fun _ h9 => h9) rfl dX1_hostReads_45 ?_
          refine lv_iload_n hx hb dX1_hostReads_48 rfl (lv_at hl 2 rfl) ?_
          refine lv_iadd hx hb dX1_hostReads_49 ?_
          replace hf := zn_s hf
          obtain ⟨k50, ek50, hf⟩ := hf
          refine z_top ek50 ?_
          refine z_put (ws' := wX1 G ad b (u.1, u.2.1, u.2.2.1, u.2.2.2.1, u.2.2.2.2.1, u.2.2.2.2.2.1, u.2.2.2.2.2.2.1, k50, 0, u.2.2.2.2.2.2.2.2.2.1, u.2.2.2.2.2.2.2.2.2.2.1, u.2.2.2.2.2.2.2.2.2.2.2.1, u.2.2.2.2.2.2.2.2.2.2.2.2.1, u.2.2.2.2.2.2.2.2.2.2.2.2.2.1, u.2.2.2.2.2.2.2.2.2.2.2.2.2.2.1, u.2.2.2.2.2.2.2.2.2.2.2.2.2.2.2.1, u.2.2.2.2.2.2.2.2.2.2.2.2.2.2.2.2)) (ci := 2) (C := RX1) (T := TX1) (N := 17) hx hb hW inlX1 tyX1 tyX1_ok nmX1 hown hK hP hD hS 0 rfl rfl 7 (by decide) (hW _ wd_50) rfl rfl (Nat.le_of_ble_eq_true rfl) rfl dX1_hostReads_50 (fun H locs hP hD hS => ?_)
          refine lv_aload_n hx hb dX1_hostReads_53 rfl (lv_at hl 0 rfl) ?_
          refine va_get (D := D) (ci := 2) (v := .int u.2.2.2.2.2.2.2.2.2.1) (C := RX1) (T := TX1) (N := 17) hx hb hW inlX1 hown hK hP 0 rfl rfl 9 (by decide) (hW _ wd_52) (fun _ h9 => h9) rfl dX1_hostReads_54 ?_
          refine lv_bipush (v := (-6)) hx hb dX1_hostReads_57 (by decide) ?_
          have J66 : ∀ (w66_0 : tX3) (w66_1 : Int32) (w66_2 : Int32) (hf : q_X1_hostReads_J66 u p1 k50 w66_0 w66_1 w66_2 = some res) (H : Heap) (locs : List Loc) (hP : va_P D vwCl (wX1 G ad b (u.1, u.2.1, u.2.2.1, u.2.2.2.1, w66_0, u.2.2.2.2.2.1, u.2.2.2.2.2.2.1, k50, 0, u.2.2.2.2.2.2.2.2.2.1, w66_1, u.2.2.2.2.2.2.2.2.2.2.2.1, u.2.2.2.2.2.2.2.2.2.2.2.2.1, u.2.2.2.2.2.2.2.2.2.2.2.2.2.1, w66_2, u.2.2.2.2.2.2.2.2.2.2.2.2.2.2.2.1, u.2.2.2.2.2.2.2.2.2.2.2.2.2.2.2.2)) H) (hD : va_D A (wX1 G ad b (u.1, u.2.1, u.2.2.1, u.2.2.2.1, w66_0, u.2.2.2.2.2.1, u.2.2.2.2.2.2.1, k50, 0, u.2.2.2.2.2.2.2.2.2.1, w66_1, u.2.2.2.2.2.2.2.2.2.2.2.1, u.2.2.2.2.2.2.2.2.2.2.2.2.1, u.2.2.2.2.2.2.2.2.2.2.2.2.2.1, w66_2, u.2.2.2.2.2.2.2.2.2.2.2.2.2.2.2.1, u.2.2.2.2.2.2.2.2.2.2.2.2.2.2.2.2))) (hS : va_S A s.heap H locs) (ls : Array Slot) (hl : lv_has ls 3 [(0, .ref (ad b)), (1, .int p1)]), W p l e (zRm 2 52) s m args below meth c H locs 0 0 Q (F0 m 66 ls []) := by
            intro w66_0 w66_1 w66_2 hf H locs hP hD hS ls hl
            unfold q_X1_hostReads_J66 at hf
            refine lv_aload_n hx hb dX1_hostReads_66 rfl (lv_at hl 0 rfl) ?_
            refine va_get (D := D) (ci := 2) (v := .ref (ad (b + 3))) (C := RX1) (T := TX1) (N := 17) hx hb hW inlX1 hown hK hP 0 rfl rfl 2 (by decide) (hW _ wd_39) (fun _ h9 => h9) rfl dX1_hostReads_67 ?_
            refine lv_iload_n hx hb dX1_hostReads_70 rfl (lv_at hl 1 rfl) ?_
            refine lv_aload_n hx hb dX1_hostReads_71 rfl (lv_at hl 0 rfl) ?_
            refine va_get (D := D) (ci := 2) (v := .ref (ad (b + 1))) (C := RX1) (T := TX1) (N := 17) hx hb hW inlX1 hown hK hP 0 rfl rfl 0 (by decide) (hW _ wd_34) (fun _ h9 => h9) rfl dX1_hostReads_72 ?_
            refine lv_iconst (v := 3) hx hb dX1_hostReads_75 (by decide) ?_
            refine z_iald (v := (u.1 3)) hx hb hK hP 1 0 rfl rfl (z_in rfl) rfl dX1_hostReads_76 ?_
            replace hf := zb_s hf
            obtain ⟨r77, hr77, hf⟩ := hf
            refine z_Vi (rest := []) C0 kX1_131 (c_X5_hasWeak l D G ad (b + 3) u.2.2.1 p1 (u.1 3) r77 hr77) (pmX1_spots G ad (b) (u.1, u.2.1, u.2.2.1, u.2.2.2.1, w66_0, u.2.2.2.2.2.1, u.2.2.2.2.2.2.1, k50, 0, u.2.2.2.2.2.2.2.2.2.1, w66_1, u.2.2.2.2.2.2.2.2.2.2.2.1, u.2.2.2.2.2.2.2.2.2.2.2.2.1, u.2.2.2.2.2.2.2.2.2.2.2.2.2.1, w66_2, u.2.2.2.2.2.2.2.2.2.2.2.2.2.2.2.1, u.2.2.2.2.2.2.2.2.2.2.2.2.2.2.2.2)) ((pmX1_spots G ad (b) (u.1, u.2.1, u.2.2.1, u.2.2.2.1, w66_0, u.2.2.2.2.2.1, u.2.2.2.2.2.2.1, k50, 0, u.2.2.2.2.2.2.2.2.2.1, w66_1, u.2.2.2.2.2.2.2.2.2.2.2.1, u.2.2.2.2.2.2.2.2.2.2.2.2.1, u.2.2.2.2.2.2.2.2.2.2.2.2.2.1, w66_2, u.2.2.2.2.2.2.2.2.2.2.2.2.2.2.2.1, u.2.2.2.2.2.2.2.2.2.2.2.2.2.2.2.2))).symm (ci := 6) (T := TX5) (N := 3) rfl rfl rfl ⟨Nat.le_of_ble_eq_true rfl, Nat.le_of_ble_eq_true rfl⟩ (Nat.le_of_ble_eq_true rfl) rfl hl.1 hP hD hS dX1_hostReads_77 (fun H locs hP hD hS => ?_)
            refine lv_if_ne (tgt := 85) hx hb dX1_hostReads_80 (by decide) (fun c80 => ?_) (fun c80 => ?_)
            · replace hf := zi_n hf c80
              refine lv_aload_n hx hb dX1_hostReads_85 rfl (lv_at hl 0 rfl) ?_
              refine lv_dup hx hb dX1_hostReads_86 rfl ?_
              refine va_get (D := D) (ci := 2) (v := .int u.2.2.2.2.2.2.2.2.2.2.2.2.2.2.2.2) (C := RX1) (T := TX1) (N := 17) hx hb hW inlX1 hown hK hP 0 rfl rfl 16 (by decide) (hW _ wd_59) (fun _ h9 => h9) rfl dX1_hostReads_87 ?_
              refine lv_iconst (v := 1) hx hb dX1_hostReads_90 (by decide) ?_
              refine lv_iadd hx hb dX1_hostReads_91 ?_
              replace hf := zn_s hf
              obtain ⟨k92, ek92, hf⟩ := hf
              refine z_top ek92 ?_
              refine z_put (ws' := wX1 G ad b (u.1, u.2.1, u.2.2.1, u.2.2.2.1, w66_0, u.2.2.2.2.2.1, u.2.2.2.2.2.2.1, k50, 0, u.2.2.2.2.2.2.2.2.2.1, w66_1, u.2.2.2.2.2.2.2.2.2.2.2.1, u.2.2.2.2.2.2.2.2.2.2.2.2.1, u.2.2.2.2.2.2.2.2.2.2.2.2.2.1, w66_2, u.2.2.2.2.2.2.2.2.2.2.2.2.2.2.2.1, k92)) (ci := 2) (C := RX1) (T := TX1) (N := 17) hx hb hW inlX1 tyX1 tyX1_ok nmX1 hown hK hP hD hS 0 rfl rfl 16 (by decide) (hW _ wd_59) rfl rfl (Nat.le_of_ble_eq_true rfl) rfl dX1_hostReads_92 (fun H locs hP hD hS => ?_)
              refine lv_aload_n hx hb dX1_hostReads_95 rfl (lv_at hl 0 rfl) ?_
              refine va_get (D := D) (ci := 2) (v := .ref (ad (b + 8))) (C := RX1) (T := TX1) (N := 17) hx hb hW inlX1 hown hK hP 0 rfl rfl 4 (by decide) (hW _ wd_47) (fun _ h9 => h9) rfl dX1_hostReads_96 ?_
              refine lv_aload_n hx hb dX1_hostReads_99 rfl (lv_at hl 0 rfl) ?_
              refine va_get (D := D) (ci := 2) (v := .int k50) (C := RX1) (T := TX1) (N := 17) hx hb hW inlX1 hown hK hP 0 rfl rfl 7 (by decide) (hW _ wd_50) (fun _ h9 => h9) rfl dX1_hostReads_100 ?_
              refine lv_bipush (v := 6) hx hb dX1_hostReads_103 (by decide) ?_
              refine lv_iload_n hx hb dX1_hostReads_105 rfl (lv_at hl 1 rfl) ?_
              replace hf := zb_s hf
              obtain ⟨r106, hr106, hf⟩ := hf
              refine z_Vv (rest := []) C0 kX1_134 (c_X3_append l D G ad (b + 8) w66_0 k50 6 p1 r106 hr106) (pmX1_log G ad (b) (u.1, u.2.1, u.2.2.1, u.2.2.2.1, w66_0, u.2.2.2.2.2.1, u.2.2.2.2.2.2.1, k50, 0, u.2.2.2.2.2.2.2.2.2.1, w66_1, u.2.2.2.2.2.2.2.2.2.2.2.1, u.2.2.2.2.2.2.2.2.2.2.2.2.1, u.2.2.2.2.2.2.2.2.2.2.2.2.2.1, w66_2, u.2.2.2.2.2.2.2.2.2.2.2.2.2.2.2.1, k92)) (pnX1_log G ad (b) (u.1, u.2.1, u.2.2.1, u.2.2.2.1, w66_0, u.2.2.2.2.2.1, u.2.2.2.2.2.2.1, k50, 0, u.2.2.2.2.2.2.2.2.2.1, w66_1, u.2.2.2.2.2.2.2.2.2.2.2.1, u.2.2.2.2.2.2.2.2.2.2.2.2.1, u.2.2.2.2.2.2.2.2.2.2.2.2.2.1, w66_2, u.2.2.2.2.2.2.2.2.2.2.2.2.2.2.2.1, k92) r106) (ci := 4) (T := TX3) (N := 5) rfl rfl rfl ⟨Nat.le_of_ble_eq_true rfl, Nat.le_of_ble_eq_true rfl⟩ (Nat.le_of_ble_eq_true rfl) rfl hl.1 hP hD hS dX1_hostReads_106 (fun H locs hP hD hS => ?_)
              replace hP : va_P D vwCl (wX1 G ad b (u.1, u.2.1, u.2.2.1, u.2.2.2.1, r106, u.2.2.2.2.2.1, u.2.2.2.2.2.2.1, k50, 0, u.2.2.2.2.2.2.2.2.2.1, w66_1, u.2.2.2.2.2.2.2.2.2.2.2.1, u.2.2.2.2.2.2.2.2.2.2.2.2.1, u.2.2.2.2.2.2.2.2.2.2.2.2.2.1, w66_2, u.2.2.2.2.2.2.2.2.2.2.2.2.2.2.2.1, k92)) H := hP
              replace hD : va_D A (wX1 G ad b (u.1, u.2.1, u.2.2.1, u.2.2.2.1, r106, u.2.2.2.2.2.1, u.2.2.2.2.2.2.1, k50, 0, u.2.2.2.2.2.2.2.2.2.1, w66_1, u.2.2.2.2.2.2.2.2.2.2.2.1, u.2.2.2.2.2.2.2.2.2.2.2.2.1, u.2.2.2.2.2.2.2.2.2.2.2.2.2.1, w66_2, u.2.2.2.2.2.2.2.2.2.2.2.2.2.2.2.1, k92)) := hD
              refine lv_aload_n hx hb dX1_hostReads_109 rfl (lv_at hl 0 rfl) ?_
              refine lv_iload_n hx hb dX1_hostReads_110 rfl (lv_at hl 1 rfl) ?_
              replace hf := zb_s hf
              obtain ⟨r111, hr111, hf⟩ := hf
              refine z_Vi (rest := []) C0 kX1_137 (c_X1_askByHand l D G ad (b) (u.1, u.2.1, u.2.2.1, u.2.2.2.1, r106, u.2.2.2.2.2.1, u.2.2.2.2.2.2.1, k50, 0, u.2.2.2.2.2.2.2.2.2.1, w66_1, u.2.2.2.2.2.2.2.2.2.2.2.1, u.2.2.2.2.2.2.2.2.2.2.2.2.1, u.2.2.2.2.2.2.2.2.2.2.2.2.2.1, w66_2, u.2.2.2.2.2.2.2.2.2.2.2.2.2.2.2.1, k92) p1 r111 hr111) z_pall z_pall.symm (ci := 2) (T := TX1) (N := 17) rfl rfl rfl ⟨Nat.le_of_ble_eq_true rfl, Nat.le_of_ble_eq_true rfl⟩ (Nat.le_of_ble_eq_true rfl) rfl hl.1 hP hD hS dX1_hostReads_111 (fun H locs hP hD hS => ?_)
              replace hP : va_P D vwCl (wX1 G ad b (u.1, u.2.1, u.2.2.1, r111.2, r106, u.2.2.2.2.2.1, u.2.2.2.2.2.2.1, k50, 0, u.2.2.2.2.2.2.2.2.2.1, w66_1, u.2.2.2.2.2.2.2.2.2.2.2.1, u.2.2.2.2.2.2.2.2.2.2.2.2.1, u.2.2.2.2.2.2.2.2.2.2.2.2.2.1, w66_2, u.2.2.2.2.2.2.2.2.2.2.2.2.2.2.2.1, k92)) H := hP
              replace hD : va_D A (wX1 G ad b (u.1, u.2.1, u.2.2.1, r111.2, r106, u.2.2.2.2.2.1, u.2.2.2.2.2.2.1, k50, 0, u.2.2.2.2.2.2.2.2.2.1, w66_1, u.2.2.2.2.2.2.2.2.2.2.2.1, u.2.2.2.2.2.2.2.2.2.2.2.2.1, u.2.2.2.2.2.2.2.2.2.2.2.2.2.1, w66_2, u.2.2.2.2.2.2.2.2.2.2.2.2.2.2.2.1, k92)) := hD
              refine lv_pop hx hb dX1_hostReads_114 rfl ?_
              refine lv_iconst (v := 1) hx hb dX1_hostReads_115 (by decide) ?_
              obtain rfl := zo hf
              exact hret _ _ _ _ _ hP hD hS rfl dX1_hostReads_116
            · replace hf := zi_p hf c80
              refine lv_iconst (v := 0) hx hb dX1_hostReads_83 (by decide) ?_
              obtain rfl := zo hf
              exact hret _ _ _ _ _ hP hD hS rfl dX1_hostReads_84
          refine lv_icmp_eq (tgt := 66) hx hb dX1_hostReads_59 (by decide) (fun c59 => ?_) (fun c59 => ?_)
          · replace hf := zi_p hf c59
            exact J66 u.2.2.2.2.1 u.2.2.2.2.2.2.2.2.2.2.1 u.2.2.2.2.2.2.2.2.2.2.2.2.2.2.1 hf _ _ hP hD hS _ (lv_sub hl [0, 1] rfl)
          · replace hf := zi_n hf c59
            refine lv_aload_n hx hb dX1_hostReads_62 rfl (lv_at hl 0 rfl) ?_
            replace hf := zb_s hf
            obtain ⟨r63, hr63, hf⟩ := hf
            refine z_Vv (rest := []) C0 kX1_128 (c_X1_pauseCheck l D G ad (b) (u.1, u.2.1, u.2.2.1, u.2.2.2.1, u.2.2.2.2.1, u.2.2.2.2.2.1, u.2.2.2.2.2.2.1, k50, 0, u.2.2.2.2.2.2.2.2.2.1, u.2.2.2.2.2.2.2.2.2.2.1, u.2.2.2.2.2.2.2.2.2.2.2.1, u.2.2.2.2.2.2.2.2.2.2.2.2.1, u.2.2.2.2.2.2.2.2.2.2.2.2.2.1, u.2.2.2.2.2.2.2.2.2.2.2.2.2.2.1, u.2.2.2.2.2.2.2.2.2.2.2.2.2.2.2.1, u.2.2.2.2.2.2.2.2.2.2.2.2.2.2.2.2) r63 hr63) z_pall z_pall.symm (ci := 2) (T := TX1) (N := 17) rfl rfl rfl ⟨Nat.le_of_ble_eq_true rfl, Nat.le_of_ble_eq_true rfl⟩ (Nat.le_of_ble_eq_true rfl) rfl hl.1 hP hD hS dX1_hostReads_63 (fun H locs hP hD hS => ?_)
            replace hP : va_P D vwCl (wX1 G ad b (u.1, u.2.1, u.2.2.1, u.2.2.2.1, r63.1, u.2.2.2.2.2.1, u.2.2.2.2.2.2.1, k50, 0, u.2.2.2.2.2.2.2.2.2.1, r63.2.1, u.2.2.2.2.2.2.2.2.2.2.2.1, u.2.2.2.2.2.2.2.2.2.2.2.2.1, u.2.2.2.2.2.2.2.2.2.2.2.2.2.1, r63.2.2, u.2.2.2.2.2.2.2.2.2.2.2.2.2.2.2.1, u.2.2.2.2.2.2.2.2.2.2.2.2.2.2.2.2)) H := hP
            replace hD : va_D A (wX1 G ad b (u.1, u.2.1, u.2.2.1, u.2.2.2.1, r63.1, u.2.2.2.2.2.1, u.2.2.2.2.2.2.1, k50, 0, u.2.2.2.2.2.2.2.2.2.1, r63.2.1, u.2.2.2.2.2.2.2.2.2.2.2.1, u.2.2.2.2.2.2.2.2.2.2.2.2.1, u.2.2.2.2.2.2.2.2.2.2.2.2.2.1, r63.2.2, u.2.2.2.2.2.2.2.2.2.2.2.2.2.2.2.1, u.2.2.2.2.2.2.2.2.2.2.2.2.2.2.2.2)) := hD
            exact J66 r63.1 r63.2.1 r63.2.2 hf _ _ hP hD hS _ (lv_sub hl [0, 1] rfl)
        · replace hf := zi_n hf c32
          refine lv_bipush (v := (-4)) hx hb dX1_hostReads_35 (by decide) ?_
          obtain rfl := zo hf
          exact hret _ _ _ _ _ hP hD hS rfl dX1_hostReads_37
      · replace hf := zi_n hf c18
        refine lv_bipush (v := (-2)) hx hb dX1_hostReads_21 (by decide) ?_
        obtain rfl := zo hf
        exact hret _ _ _ _ _ hP hD hS rfl dX1_hostReads_23
  · replace hf := zi_p hf c4
    refine lv_iconst (v := (-1)) hx hb dX1_hostReads_7 (by decide) ?_
    obtain rfl := zo hf
    exact hret _ _ _ _ _ hP hD hS rfl dX1_hostReads_8
noncomputable def q_X1_ageOf (u : tX1) (p1 : Int32) : Option (Int32) :=
  zb (q_X6_isSpan p1) fun r1 => (if r1 = 0 then some (0) else zg 8 u.2.1 p1 fun a18 => some ((u.2.2.2.2.2.2.2.1 - a18)))
set_option maxRecDepth 100000 in
set_option maxHeartbeats 4000000 in
theorem c_X1_ageOf (l : Launch) (D : va_G) (G : zG) (ad : Nat → Nat) (b : Nat) (u : tX1) (p1 : Int32) (res : Int32) (hf : q_X1_ageOf u p1 = some res) : zMi l yX1_ageOf cX1_ageOf 2 (some .int) 1 20 D G (wX1 G ad b u) (wX1 G ad b u) [.ref (ad b), .int p1] res := by
  refine zs_i (plainFor_of_name (by decide)) (Nat.le_of_ble_eq_true rfl) ?_
  intro p e s m args below meth c A Q H ls C0 hret hP hD hS hl
  obtain ⟨hx, hb, hml, hown, hW, hK, hlocks, hF, hr, hA⟩ := id C0
  replace hl : lv_has ls 2 [(0, .ref (ad b)), (1, .int p1)] := hl
  unfold q_X1_ageOf at hf
  refine lv_iload_n hx hb dX1_ageOf_0 rfl (lv_at hl 1 rfl) ?_
  replace hf := zb_s hf
  obtain ⟨r1, hr1, hf⟩ := hf
  refine z_Ni (rest := []) C0 kX1_105 (c_X6_isSpan l D G p1 r1 hr1) (List.Perm.refl _) (List.Perm.refl _) rfl ⟨Nat.le_of_ble_eq_true rfl, Nat.le_of_ble_eq_true rfl⟩ (Nat.le_of_ble_eq_true rfl) rfl hl.1 hP hD hS dX1_ageOf_1 (fun H locs hP hD hS => ?_)
  refine lv_if_ne (tgt := 9) hx hb dX1_ageOf_4 (by decide) (fun c4 => ?_) (fun c4 => ?_)
  · replace hf := zi_n hf c4
    refine lv_aload_n hx hb dX1_ageOf_9 rfl (lv_at hl 0 rfl) ?_
    refine va_get (D := D) (ci := 2) (v := .int u.2.2.2.2.2.2.2.1) (C := RX1) (T := TX1) (N := 17) hx hb hW inlX1 hown hK hP 0 rfl rfl 7 (by decide) (hW _ wd_50) (fun _ h9 => h9) rfl dX1_ageOf_10 ?_
    refine lv_aload_n hx hb dX1_ageOf_13 rfl (lv_at hl 0 rfl) ?_
    refine va_get (D := D) (ci := 2) (v := .ref (ad (b + 2))) (C := RX1) (T := TX1) (N := 17) hx hb hW inlX1 hown hK hP 0 rfl rfl 1 (by decide) (hW _ wd_35) (fun _ h9 => h9) rfl dX1_ageOf_14 ?_
    refine lv_iload_n hx hb dX1_ageOf_17 rfl (lv_at hl 1 rfl) ?_
    replace hf := zg_s hf
    obtain ⟨hi18, a18, ea18, hf⟩ := hf
    refine z_iald hx hb hK hP 2 0 rfl rfl hi18 ea18 dX1_ageOf_18 ?_
    refine lv_isub hx hb dX1_ageOf_19 ?_
    obtain rfl := zo hf
    exact hret _ _ _ _ _ hP hD hS rfl dX1_ageOf_20
  · replace hf := zi_p hf c4
    refine lv_iconst (v := 0) hx hb dX1_ageOf_7 (by decide) ?_
    obtain rfl := zo hf
    exact hret _ _ _ _ _ hP hD hS rfl dX1_ageOf_8
theorem kX1_166 : zLkV RX1 166 yX1_ageOf cX1_ageOf 2 (some .int) 1 := ⟨⟨wd_390, wd_391, wd_392, wd_14, wd_393⟩, by decide +kernel⟩
noncomputable def q_X1_isOverdue (u : tX1) (p1 : Int32) : Option (Int32) :=
  zb (q_X1_ageOf u p1) fun r2 => (if r2 ≤ (u.1 4) then some (0) else some (1))
set_option maxRecDepth 100000 in
set_option maxHeartbeats 4000000 in
theorem c_X1_isOverdue (l : Launch) (D : va_G) (G : zG) (ad : Nat → Nat) (b : Nat) (u : tX1) (p1 : Int32) (res : Int32) (hf : q_X1_isOverdue u p1 = some res) : zMi l yX1_isOverdue cX1_isOverdue 2 (some .boolean) 2 41 D G (wX1 G ad b u) (wX1 G ad b u) [.ref (ad b), .int p1] res := by
  refine zs_z (plainFor_of_name (by decide)) (Nat.le_of_ble_eq_true rfl) ?_
  intro p e s m args below meth c A Q H ls C0 hret hP hD hS hl
  obtain ⟨hx, hb, hml, hown, hW, hK, hlocks, hF, hr, hA⟩ := id C0
  replace hl : lv_has ls 2 [(0, .ref (ad b)), (1, .int p1)] := hl
  unfold q_X1_isOverdue at hf
  refine lv_aload_n hx hb dX1_isOverdue_0 rfl (lv_at hl 0 rfl) ?_
  refine lv_iload_n hx hb dX1_isOverdue_1 rfl (lv_at hl 1 rfl) ?_
  replace hf := zb_s hf
  obtain ⟨r2, hr2, hf⟩ := hf
  refine z_Vi (rest := []) C0 kX1_166 (c_X1_ageOf l D G ad (b) u p1 r2 hr2) z_pall z_pall.symm (ci := 2) (T := TX1) (N := 17) rfl rfl rfl ⟨Nat.le_of_ble_eq_true rfl, Nat.le_of_ble_eq_true rfl⟩ (Nat.le_of_ble_eq_true rfl) rfl hl.1 hP hD hS dX1_isOverdue_2 (fun H locs hP hD hS => ?_)
  refine lv_aload_n hx hb dX1_isOverdue_5 rfl (lv_at hl 0 rfl) ?_
  refine va_get (D := D) (ci := 2) (v := .ref (ad (b + 1))) (C := RX1) (T := TX1) (N := 17) hx hb hW inlX1 hown hK hP 0 rfl rfl 0 (by decide) (hW _ wd_34) (fun _ h9 => h9) rfl dX1_isOverdue_6 ?_
  refine lv_iconst (v := 4) hx hb dX1_isOverdue_9 (by decide) ?_
  refine z_iald (v := (u.1 4)) hx hb hK hP 1 0 rfl rfl (z_in rfl) rfl dX1_isOverdue_10 ?_
  refine lv_icmp_le (tgt := 18) hx hb dX1_isOverdue_11 (by decide) (fun c11 => ?_) (fun c11 => ?_)
  · replace hf := zi_p hf c11
    refine lv_iconst (v := 0) hx hb dX1_isOverdue_18 (by decide) ?_
    obtain rfl := zo hf
    exact hret _ _ _ _ _ hP hD hS rfl rfl dX1_isOverdue_19
  · replace hf := zi_n hf c11
    refine lv_iconst (v := 1) hx hb dX1_isOverdue_14 (by decide) ?_
    refine lv_goto (tgt := 19) hx hb dX1_isOverdue_15 (by decide) ?_
    obtain rfl := zo hf
    exact hret _ _ _ _ _ hP hD hS rfl rfl dX1_isOverdue_19
noncomputable def q_X1_isDue (u : tX1) (p1 : Int32) : Option (Int32) :=
  zb (q_X1_ageOf u p1) fun r2 => (if r2 < ((u.1 4) / 2) then some (0) else some (1))
set_option maxRecDepth 100000 in
set_option maxHeartbeats 4000000 in
theorem c_X1_isDue (l : Launch) (D : va_G) (G : zG) (ad : Nat → Nat) (b : Nat) (u : tX1) (p1 : Int32) (res : Int32) (hf : q_X1_isDue u p1 = some res) : zMi l yX1_isDue cX1_isDue 2 (some .boolean) 2 41 D G (wX1 G ad b u) (wX1 G ad b u) [.ref (ad b), .int p1] res := by
  refine zs_z (plainFor_of_name (by decide)) (Nat.le_of_ble_eq_true rfl) ?_
  intro p e s m args below meth c A Q H ls C0 hret hP hD hS hl
  obtain ⟨hx, hb, hml, hown, hW, hK, hlocks, hF, hr, hA⟩ := id C0
  replace hl : lv_has ls 2 [(0, .ref (ad b)), (1, .int p1)] := hl
  unfold q_X1_isDue at hf
  refine lv_aload_n hx hb dX1_isDue_0 rfl (lv_at hl 0 rfl) ?_
  refine lv_iload_n hx hb dX1_isDue_1 rfl (lv_at hl 1 rfl) ?_
  replace hf := zb_s hf
  obtain ⟨r2, hr2, hf⟩ := hf
  refine z_Vi (rest := []) C0 kX1_166 (c_X1_ageOf l D G ad (b) u p1 r2 hr2) z_pall z_pall.symm (ci := 2) (T := TX1) (N := 17) rfl rfl rfl ⟨Nat.le_of_ble_eq_true rfl, Nat.le_of_ble_eq_true rfl⟩ (Nat.le_of_ble_eq_true rfl) rfl hl.1 hP hD hS dX1_isDue_2 (fun H locs hP hD hS => ?_)
  refine lv_aload_n hx hb dX1_isDue_5 rfl (lv_at hl 0 rfl) ?_
  refine va_get (D := D) (ci := 2) (v := .ref (ad (b + 1))) (C := RX1) (T := TX1) (N := 17) hx hb hW inlX1 hown hK hP 0 rfl rfl 0 (by decide) (hW _ wd_34) (fun _ h9 => h9) rfl dX1_isDue_6 ?_
  refine lv_iconst (v := 4) hx hb dX1_isDue_9 (by decide) ?_
  refine z_iald (v := (u.1 4)) hx hb hK hP 1 0 rfl rfl (z_in rfl) rfl dX1_isDue_10 ?_
  refine lv_iconst (v := 2) hx hb dX1_isDue_11 (by decide) ?_
  refine lv_idiv hx hb dX1_isDue_12 (by decide) ?_
  refine lv_icmp_lt (tgt := 20) hx hb dX1_isDue_13 (by decide) (fun c13 => ?_) (fun c13 => ?_)
  · replace hf := zi_p hf c13
    refine lv_iconst (v := 0) hx hb dX1_isDue_20 (by decide) ?_
    obtain rfl := zo hf
    exact hret _ _ _ _ _ hP hD hS rfl rfl dX1_isDue_21
  · replace hf := zi_n hf c13
    refine lv_iconst (v := 1) hx hb dX1_isDue_16 (by decide) ?_
    refine lv_goto (tgt := 21) hx hb dX1_isDue_17 (by decide) ?_
    obtain rfl := zo hf
    exact hret _ _ _ _ _ hP hD hS rfl rfl dX1_isDue_21
theorem kX1_169 : zLkV RX1 169 yX5_sumOf cX5_sumOf 5 (some .int) 2 := ⟨⟨wd_398, wd_399, wd_400, wd_38, wd_401⟩, by decide +kernel⟩
noncomputable def q_X1_rankOf (u : tX1) (p1 : Int32) : Option (Int32) :=
  (if u.2.2.2.2.2.1 = 0 then zb (q_X1_ageOf u p1) fun r34 => some (r34) else if u.2.2.2.2.2.1 = 1 then zb (q_X5_sumOf u.2.2.1 p1 9) fun r45 => some (r45) else some (0))
set_option maxRecDepth 100000 in
set_option maxHeartbeats 4000000 in
theorem c_X1_rankOf (l : Launch) (D : va_G) (G : zG) (ad : Nat → Nat) (b : Nat) (u : tX1) (p1 : Int32) (res : Int32) (hf : q_X1_rankOf u p1 = some res) : zMi l yX1_rankOf cX1_rankOf 2 (some .int) 2 56 D G (wX1 G ad b u) (wX1 G ad b u) [.ref (ad b), .int p1] res := by
  refine zs_i (plainFor_of_name (by decide)) (Nat.le_of_ble_eq_true rfl) ?_
  intro p e s m args below meth c A Q H ls C0 hret hP hD hS hl
  obtain ⟨hx, hb, hml, hown, hW, hK, hlocks, hF, hr, hA⟩ := id C0
  replace hl : lv_has ls 2 [(0, .ref (ad b)), (1, .int p1)] := hl
  unfold q_X1_rankOf at hf
  refine lv_aload_n hx hb dX1_rankOf_0 rfl (lv_at hl 0 rfl) ?_
  refine va_get (D := D) (ci := 2) (v := .int u.2.2.2.2.2.1) (C := RX1) (T := TX1) (N := 17) hx hb hW inlX1 hown hK hP 0 rfl rfl 5 (by decide) (hW _ wd_48) (fun _ h9 => h9) rfl dX1_rankOf_1 ?_
  refine z_by (c := u.2.2.2.2.2.1 = 0) (fun c4_0 => ?_) (fun n4_0 => ?_)
  · replace hf := zi_p hf c4_0
    refine lv_lookup (tgt := 32) (off := 28) hx hb dX1_rankOf_4 (by decide) (by rw [c4_0]; decide) (by decide) ?_
    refine lv_aload_n hx hb dX1_rankOf_32 rfl (lv_at hl 0 rfl) ?_
    refine lv_iload_n hx hb dX1_rankOf_33 rfl (lv_at hl 1 rfl) ?_
    replace hf := zb_s hf
    obtain ⟨r34, hr34, hf⟩ := hf
    refine z_Vi (rest := []) C0 kX1_166 (c_X1_ageOf l D G ad (b) u p1 r34 hr34) z_pall z_pall.symm (ci := 2) (T := TX1) (N := 17) rfl rfl rfl ⟨Nat.le_of_ble_eq_true rfl, Nat.le_of_ble_eq_true rfl⟩ (Nat.le_of_ble_eq_true rfl) rfl hl.1 hP hD hS dX1_rankOf_34 (fun H locs hP hD hS => ?_)
    obtain rfl := zo hf
    exact hret _ _ _ _ _ hP hD hS rfl dX1_rankOf_37
  · replace hf := zi_n hf n4_0
    refine z_by (c := u.2.2.2.2.2.1 = 1) (fun c4_1 => ?_) (fun n4_1 => ?_)
    · replace hf := zi_p hf c4_1
      refine lv_lookup (tgt := 38) (off := 34) hx hb dX1_rankOf_4 (by decide) (by rw [c4_1]; decide) (by decide) ?_
      refine lv_aload_n hx hb dX1_rankOf_38 rfl (lv_at hl 0 rfl) ?_
      refine va_get (D := D) (ci := 2) (v := .ref (ad (b + 3))) (C := RX1) (T := TX1) (N := 17) hx hb hW inlX1 hown hK hP 0 rfl rfl 2 (by decide) (hW _ wd_39) (fun _ h9 => h9) rfl dX1_rankOf_39 ?_
      refine lv_iload_n hx hb dX1_rankOf_42 rfl (lv_at hl 1 rfl) ?_
      refine lv_bipush (v := 9) hx hb dX1_rankOf_43 (by decide) ?_
      replace hf := zb_s hf
      obtain ⟨r45, hr45, hf⟩ := hf
      refine z_Vi (rest := []) C0 kX1_169 (c_X5_sumOf l D G ad (b + 3) u.2.2.1 p1 9 r45 hr45) (pmX1_spots G ad (b) u) ((pmX1_spots G ad (b) u)).symm (ci := 6) (T := TX5) (N := 3) rfl rfl rfl ⟨Nat.le_of_ble_eq_true rfl, Nat.le_of_ble_eq_true rfl⟩ (Nat.le_of_ble_eq_true rfl) rfl hl.1 hP hD hS dX1_rankOf_45 (fun H locs hP hD hS => ?_)
      obtain rfl := zo hf
      exact hret _ _ _ _ _ hP hD hS rfl dX1_rankOf_48
    · replace hf := zi_n hf n4_1
      refine lv_lookup (tgt := 49) (off := 45) hx hb dX1_rankOf_4 (by decide) ((lv_osw n4_0 rfl).trans ((lv_osw n4_1 rfl).trans (rfl))) (by decide) ?_
      refine lv_iconst (v := 0) hx hb dX1_rankOf_49 (by decide) ?_
      obtain rfl := zo hf
      exact hret _ _ _ _ _ hP hD hS rfl dX1_rankOf_50
theorem kX1_160 : zLkV RX1 160 yX1_isDue cX1_isDue 2 (some .boolean) 1 := ⟨⟨wd_386, wd_387, wd_388, wd_14, wd_389⟩, by decide +kernel⟩
theorem kX1_163 : zLkV RX1 163 yX1_rankOf cX1_rankOf 2 (some .int) 1 := ⟨⟨wd_394, wd_395, wd_396, wd_14, wd_397⟩, by decide +kernel⟩
noncomputable def q_X1_chooseSpan_L45 (u : tX1) (y36_0 : Int32) (v45 : Int32 × Int32 × Int32) : Option ((Int32 × Int32 × Int32) ⊕ (Int32)) :=
  (if 8 ≤ v45.2.2 then some (Sum.inr (v45.1)) else zb (q_X1_isDue u ((y36_0 + v45.2.2) - (y36_0 + v45.2.2) / 8 * 8)) fun r64 => (if r64 = 0 then some (Sum.inl (v45.1, v45.2.1, (v45.2.2 + 1))) else zb (q_X1_rankOf u ((y36_0 + v45.2.2) - (y36_0 + v45.2.2) / 8 * 8)) fun r73 => (if r73 ≤ v45.2.1 then some (Sum.inl (v45.1, v45.2.1, (v45.2.2 + 1))) else zb (q_X1_rankOf u ((y36_0 + v45.2.2) - (y36_0 + v45.2.2) / 8 * 8)) fun r86 => some (Sum.inl (((y36_0 + v45.2.2) - (y36_0 + v45.2.2) / 8 * 8), r86, (v45.2.2 + 1))))))
noncomputable def q_X1_chooseSpan_J36 (u : tX1) (y36_0 : Int32) : Option (Int32) :=
  zb (zl 1000000 (q_X1_chooseSpan_L45 u y36_0) ((-6), (-1), 0)) (fun b45 => some (b45))
noncomputable def q_X1_chooseSpan (u : tX1) : Option (Int32) :=
  (if u.2.2.2.1.2 ≤ 0 then (if u.2.2.2.2.2.1 = 2 then q_X1_chooseSpan_J36 u u.2.2.2.2.2.2.2.2.2.2.2.2.1 else q_X1_chooseSpan_J36 u 0) else some ((u.2.2.2.1.1 0)))
set_option maxRecDepth 100000 in
set_option maxHeartbeats 4000000 in
theorem c_X1_chooseSpan (l : Launch) (D : va_G) (G : zG) (ad : Nat → Nat) (b : Nat) (u : tX1) (res : Int32) (hf : q_X1_chooseSpan u = some res) : zMi l yX1_chooseSpan cX1_chooseSpan 6 (some .int) 3 77 D G (wX1 G ad b u) (wX1 G ad b u) [.ref (ad b)] res := by
  refine zs_i (plainFor_of_name (by decide)) (Nat.le_of_ble_eq_true rfl) ?_
  intro p e s m args below meth c A Q H ls C0 hret hP hD hS hl
  obtain ⟨hx, hb, hml, hown, hW, hK, hlocks, hF, hr, hA⟩ := id C0
  replace hl : lv_has ls 6 [(0, .ref (ad b))] := hl
  unfold q_X1_chooseSpan at hf
  refine lv_aload_n hx hb dX1_chooseSpan_0 rfl (lv_at hl 0 rfl) ?_
  refine va_get (D := D) (ci := 2) (v := .ref (ad (b + 6))) (C := RX1) (T := TX1) (N := 17) hx hb hW inlX1 hown hK hP 0 rfl rfl 3 (by decide) (hW _ wd_43) (fun _ h9 => h9) rfl dX1_chooseSpan_1 ?_
  refine va_getN (host := "QuietChecks") (D := D) (ci := 1) (v := .int u.2.2.2.1.2) (C := RX0) (T := TX0) (N := 2) hx hb hW inlX0 hown hK hP 6 rfl rfl 1 (by decide) (va_Nw.use rfl (hF.1 _ (by decide +kernel : Cond.fieldLinkNest "QuietChecks$Disk" 121 "QuietChecks$Asked" "size" "I" "QuietChecks" ∈ zNest))) (fun _ h9 => h9) rfl dX1_chooseSpan_4 ?_
  refine lv_if_le (tgt := 20) hx hb dX1_chooseSpan_7 (by decide) (fun c7 => ?_) (fun c7 => ?_)
  · replace hf := zi_p hf c7
    refine lv_aload_n hx hb dX1_chooseSpan_20 rfl (lv_at hl 0 rfl) ?_
    refine va_get (D := D) (ci := 2) (v := .int u.2.2.2.2.2.1) (C := RX1) (T := TX1) (N := 17) hx hb hW inlX1 hown hK hP 0 rfl rfl 5 (by decide) (hW _ wd_48) (fun _ h9 => h9) rfl dX1_chooseSpan_21 ?_
    refine lv_iconst (v := 2) hx hb dX1_chooseSpan_24 (by decide) ?_
    have J36 : ∀ (y36_0 : Int32) (hf : q_X1_chooseSpan_J36 u y36_0 = some res) (H : Heap) (locs : List Loc) (hP : va_P D vwCl (wX1 G ad b u) H) (hD : va_D A (wX1 G ad b u)) (hS : va_S A s.heap H locs) (ls : Array Slot) (hl : lv_has ls 6 [(0, .ref (ad b))]), W p l e (zRm 3 77) s m args below meth c H locs 0 0 Q (F0 m 36 ls [.int y36_0]) := by
      intro y36_0 hf H locs hP hD hS ls hl
      unfold q_X1_chooseSpan_J36 at hf
      refine lv_istore_n (lv' := [(1, .int y36_0), (0, .ref (ad b))]) hx hb dX1_chooseSpan_36 rfl hl (by decide) rfl (fun ls hl => ?_)
      refine lv_bipush (v := (-6)) hx hb dX1_chooseSpan_37 (by decide) ?_
      refine lv_istore_n (lv' := [(2, .int (-6)), (1, .int y36_0), (0, .ref (ad b))]) hx hb dX1_chooseSpan_39 rfl hl (by decide) rfl (fun ls hl => ?_)
      refine lv_iconst (v := (-1)) hx hb dX1_chooseSpan_40 (by decide) ?_
      refine lv_istore_n (lv' := [(3, .int (-1)), (2, .int (-6)), (1, .int y36_0), (0, .ref (ad b))]) hx hb dX1_chooseSpan_41 rfl hl (by decide) rfl (fun ls hl => ?_)
      refine lv_iconst (v := 0) hx hb dX1_chooseSpan_42 (by decide) ?_
      refine lv_istore (lv' := [(4, .int 0), (3, .int (-1)), (2, .int (-6)), (1, .int y36_0), (0, .ref (ad b))]) hx hb dX1_chooseSpan_43 hl (by decide) rfl (fun ls hl => ?_)
      replace hf := zb_s hf
      obtain ⟨b45, hz45, hk45⟩ := hf
      have L45 : ∀ (n45 : Nat) (v45 : Int32 × Int32 × Int32) (hz45 : zl n45 (q_X1_chooseSpan_L45 u y36_0) v45 = some b45) (H : Heap) (locs : List Loc) (hP : va_P D vwCl (wX1 G ad b u) H) (hD : va_D A (wX1 G ad b u)) (hS : va_S A s.heap H locs) (ls : Array Slot) (hl : lv_has ls 6 [(0, .ref (ad b)), (1, .int y36_0), (2, .int v45.1), (3, .int v45.2.1), (4, .int v45.2.2)]), W p l e (zRm 3 77) s m args below meth c H locs 0 0 Q (F0 m 45 ls []) := by
        intro n45
        induction n45 with
        | zero => intro v45 hz45; exact (zl_0 hz45).elim
        | succ n45 ih45 =>
          intro v45 hz45 H locs hP hD hS ls hl
          obtain ⟨o45, hf, hz45⟩ := zl_s hz45
          unfold q_X1_chooseSpan_L45 at hf
          refine lv_iload hx hb dX1_chooseSpan_45 (lv_at hl 4 rfl) ?_
          refine lv_bipush (v := 8) hx hb dX1_chooseSpan_47 (by decide) ?_
          refine lv_icmp_ge (tgt := 96) hx hb dX1_chooseSpan_49 (by decide) (fun c49 => ?_) (fun c49 => ?_)
          · replace hf := zi_p hf c49
            have hb45 := zk_r hf hz45
            subst hb45
            replace hf := hk45
            refine lv_iload_n hx hb dX1_chooseSpan_96 rfl (lv_at hl 2 rfl) ?_
            obtain rfl := zo hf
            exact hret _ _ _ _ _ hP hD hS rfl dX1_chooseSpan_97
          · replace hf := zi_n hf c49
            refine lv_iload_n hx hb dX1_chooseSpan_52 rfl (lv_at hl 1 rfl) ?_
            refine lv_iload hx hb dX1_chooseSpan_53 (lv_at hl 4 rfl) ?_
            refine lv_iadd hx hb dX1_chooseSpan_55 ?_
            refine lv_bipush (v := 8) hx hb dX1_chooseSpan_56 (by decide) ?_
            refine lv_irem hx hb dX1_chooseSpan_58 (by decide) ?_
            refine lv_istore (lv' := [(5, .int ((y36_0 + v45.2.2) - (y36_0 + v45.2.2) / 8 * 8)), (0, .ref (ad b)), (1, .int y36_0), (2, .int v45.1), (3, .int v45.2.1), (4, .int v45.2.2)]) hx hb dX1_chooseSpan_59 hl (by decide) rfl (fun ls hl => ?_)
            refine lv_aload_n hx hb dX1_chooseSpan_61 rfl (lv_at hl 1 rfl) ?_
            refine lv_iload hx hb dX1_chooseSpan_62 (lv_at hl 0 rfl) ?_
            replace hf := zb_s hf
            obtain ⟨r64, hr64, hf⟩ := hf
            refine z_Vi (rest := []) C0 kX1_160 (c_X1_isDue l D G ad (b) u ((y36_0 + v45.2.2) - (y36_0 + v45.2.2) / 8 * 8) r64 hr64) z_pall z_pall.symm (ci := 2) (T := TX1) (N := 17) rfl rfl rfl ⟨Nat.le_of_ble_eq_true rfl, Nat.le_of_ble_eq_true rfl⟩ (Nat.le_of_ble_eq_true rfl) rfl hl.1 hP hD hS dX1_chooseSpan_64 (fun H locs hP hD hS => ?_)
            refine lv_if_eq (tgt := 90) hx hb dX1_chooseSpan_67 (by decide) (fun c67 => ?_) (fun c67 => ?_)
            · replace hf := zi_p hf c67
              refine lv_iinc (v := (v45.2.2 + 1)) (lv' := [(4, .int (v45.2.2 + 1)), (5, .int ((y36_0 + v45.2.2) - (y36_0 + v45.2.2) / 8 * 8)), (0, .ref (ad b)), (1, .int y36_0), (2, .int v45.1), (3, .int v45.2.1)]) hx hb dX1_chooseSpan_90 hl (k := 5) rfl rfl (by decide) rfl (fun ls hl => ?_)
              refine lv_goto (tgt := 45) hx hb dX1_chooseSpan_93 (by decide) ?_
              exact ih45 _ (zk_l hf hz45) _ _ hP hD hS _ (lv_sub hl [2, 3, 4, 5, 0] rfl)
            · replace hf := zi_n hf c67
              refine lv_aload_n hx hb dX1_chooseSpan_70 rfl (lv_at hl 1 rfl) ?_
              refine lv_iload hx hb dX1_chooseSpan_71 (lv_at hl 0 rfl) ?_
              replace hf := zb_s hf
              obtain ⟨r73, hr73, hf⟩ := hf
              refine z_Vi (rest := []) C0 kX1_163 (c_X1_rankOf l D G ad (b) u ((y36_0 + v45.2.2) - (y36_0 + v45.2.2) / 8 * 8) r73 hr73) z_pall z_pall.symm (ci := 2) (T := TX1) (N := 17) rfl rfl rfl ⟨Nat.le_of_ble_eq_true rfl, Nat.le_of_ble_eq_true rfl⟩ (Nat.le_of_ble_eq_true rfl) rfl hl.1 hP hD hS dX1_chooseSpan_73 (fun H locs hP hD hS => ?_)
              refine lv_iload_n hx hb dX1_chooseSpan_76 rfl (lv_at hl 4 rfl) ?_
              refine lv_icmp_le (tgt := 90) hx hb dX1_chooseSpan_77 (by decide) (fun c77 => ?_) (fun c77 => ?_)
              · replace hf := zi_p hf c77
                refine lv_iinc (v := (v45.2.2 + 1)) (lv' := [(4, .int (v45.2.2 + 1)), (5, .int ((y36_0 + v45.2.2) - (y36_0 + v45.2.2) / 8 * 8)), (0, .ref (ad b)), (1, .int y36_0), (2, .int v45.1), (3, .int v45.2.1)]) hx hb dX1_chooseSpan_90 hl (k := 5) rfl rfl (by decide) rfl (fun ls hl => ?_)
                refine lv_goto (tgt := 45) hx hb dX1_chooseSpan_93 (by decide) ?_
                exact ih45 _ (zk_l hf hz45) _ _ hP hD hS _ (lv_sub hl [2, 3, 4, 5, 0] rfl)
              · replace hf := zi_n hf c77
                refine lv_iload hx hb dX1_chooseSpan_80 (lv_at hl 0 rfl) ?_
                refine lv_istore_n (lv' := [(2, .int ((y36_0 + v45.2.2) - (y36_0 + v45.2.2) / 8 * 8)), (5, .int ((y36_0 + v45.2.2) - (y36_0 + v45.2.2) / 8 * 8)), (0, .ref (ad b)), (1, .int y36_0), (3, .int v45.2.1), (4, .int v45.2.2)]) hx hb dX1_chooseSpan_82 rfl hl (by decide) rfl (fun ls hl => ?_)
                refine lv_aload_n hx hb dX1_chooseSpan_83 rfl (lv_at hl 2 rfl) ?_
                refine lv_iload hx hb dX1_chooseSpan_84 (lv_at hl 1 rfl) ?_
                replace hf := zb_s hf
                obtain ⟨r86, hr86, hf⟩ := hf
                refine z_Vi (rest := []) C0 kX1_163 (c_X1_rankOf l D G ad (b) u ((y36_0 + v45.2.2) - (y36_0 + v45.2.2) / 8 * 8) r86 hr86) z_pall z_pall.symm (ci := 2) (T := TX1) (N := 17) rfl rfl rfl ⟨Nat.le_of_ble_eq_true rfl, Nat.le_of_ble_eq_true rfl⟩ (Nat.le_of_ble_eq_true rfl) rfl hl.1 hP hD hS dX1_chooseSpan_86 (fun H locs hP hD hS => ?_)
                refine lv_istore_n (lv' := [(3, .int r86), (2, .int ((y36_0 + v45.2.2) - (y36_0 + v45.2.2) / 8 * 8)), (5, .int ((y36_0 + v45.2.2) - (y36_0 + v45.2.2) / 8 * 8)), (0, .ref (ad b)), (1, .int y36_0), (4, .int v45.2.2)]) hx hb dX1_chooseSpan_89 rfl hl (by decide) rfl (fun ls hl => ?_)
                refine lv_iinc (v := (v45.2.2 + 1)) (lv' := [(4, .int (v45.2.2 + 1)), (3, .int r86), (2, .int ((y36_0 + v45.2.2) - (y36_0 + v45.2.2) / 8 * 8)), (5, .int ((y36_0 + v45.2.2) - (y36_0 + v45.2.2) / 8 * 8)), (0, .ref (ad b)), (1, .int y36_0)]) hx hb dX1_chooseSpan_90 hl (k := 5) rfl rfl (by decide) rfl (fun ls hl => ?_)
                refine lv_goto (tgt := 45) hx hb dX1_chooseSpan_93 (by decide) ?_
                exact ih45 _ (zk_l hf hz45) _ _ hP hD hS _ (lv_sub hl [4, 5, 2, 1, 0] rfl)
      exact L45 _ _ hz45 _ _ hP hD hS _ (lv_sub hl [4, 3, 2, 1, 0] rfl)
    refine lv_icmp_ne (tgt := 35) hx hb dX1_chooseSpan_25 (by decide) (fun c25 => ?_) (fun c25 => ?_)
    · replace hf := zi_n hf c25
      refine lv_iconst (v := 0) hx hb dX1_chooseSpan_35 (by decide) ?_
      exact J36 0 hf _ _ hP hD hS _ (lv_sub hl [0] rfl)
    · replace hf := zi_p hf c25
      refine lv_aload_n hx hb dX1_chooseSpan_28 rfl (lv_at hl 0 rfl) ?_
      refine va_get (D := D) (ci := 2) (v := .int u.2.2.2.2.2.2.2.2.2.2.2.2.1) (C := RX1) (T := TX1) (N := 17) hx hb hW inlX1 hown hK hP 0 rfl rfl 12 (by decide) (hW _ wd_55) (fun _ h9 => h9) rfl dX1_chooseSpan_29 ?_
      refine lv_goto (tgt := 36) hx hb dX1_chooseSpan_32 (by decide) ?_
      exact J36 u.2.2.2.2.2.2.2.2.2.2.2.2.1 hf _ _ hP hD hS _ (lv_sub hl [0] rfl)
  · replace hf := zi_n hf c7
    refine lv_aload_n hx hb dX1_chooseSpan_10 rfl (lv_at hl 0 rfl) ?_
    refine va_get (D := D) (ci := 2) (v := .ref (ad (b + 6))) (C := RX1) (T := TX1) (N := 17) hx hb hW inlX1 hown hK hP 0 rfl rfl 3 (by decide) (hW _ wd_43) (fun _ h9 => h9) rfl dX1_chooseSpan_11 ?_
    refine va_getN (host := "QuietChecks") (D := D) (ci := 1) (v := .ref (ad (b + 7))) (C := RX0) (T := TX0) (N := 2) hx hb hW inlX0 hown hK hP 6 rfl rfl 0 (by decide) (va_Nw.use rfl (hF.1 _ (by decide +kernel : Cond.fieldLinkNest "QuietChecks$Disk" 157 "QuietChecks$Asked" "spans" "[I" "QuietChecks" ∈ zNest))) (fun _ h9 => h9) rfl dX1_chooseSpan_14 ?_
    refine lv_iconst (v := 0) hx hb dX1_chooseSpan_17 (by decide) ?_
    refine z_iald (v := (u.2.2.2.1.1 0)) hx hb hK hP 7 0 rfl rfl (z_in rfl) rfl dX1_chooseSpan_18 ?_
    obtain rfl := zo hf
    exact hret _ _ _ _ _ hP hD hS rfl dX1_chooseSpan_19
noncomputable def q_X1_ticksOfCheck (u : tX1) (p1 : Int32) : Option (Int32) :=
  zb (q_X5_sumOf u.2.2.1 p1 (u.1 3)) fun r23 => some (((u.1 1) + ((u.1 2) * r23)))
set_option maxRecDepth 100000 in
set_option maxHeartbeats 4000000 in
theorem c_X1_ticksOfCheck (l : Launch) (D : va_G) (G : zG) (ad : Nat → Nat) (b : Nat) (u : tX1) (p1 : Int32) (res : Int32) (hf : q_X1_ticksOfCheck u p1 = some res) : zMi l yX1_ticksOfCheck cX1_ticksOfCheck 2 (some .int) 2 56 D G (wX1 G ad b u) (wX1 G ad b u) [.ref (ad b), .int p1] res := by
  refine zs_i (plainFor_of_name (by decide)) (Nat.le_of_ble_eq_true rfl) ?_
  intro p e s m args below meth c A Q H ls C0 hret hP hD hS hl
  obtain ⟨hx, hb, hml, hown, hW, hK, hlocks, hF, hr, hA⟩ := id C0
  replace hl : lv_has ls 2 [(0, .ref (ad b)), (1, .int p1)] := hl
  unfold q_X1_ticksOfCheck at hf
  refine lv_aload_n hx hb dX1_ticksOfCheck_0 rfl (lv_at hl 0 rfl) ?_
  refine va_get (D := D) (ci := 2) (v := .ref (ad (b + 1))) (C := RX1) (T := TX1) (N := 17) hx hb hW inlX1 hown hK hP 0 rfl rfl 0 (by decide) (hW _ wd_34) (fun _ h9 => h9) rfl dX1_ticksOfCheck_1 ?_
  refine lv_iconst (v := 1) hx hb dX1_ticksOfCheck_4 (by decide) ?_
  refine z_iald (v := (u.1 1)) hx hb hK hP 1 0 rfl rfl (z_in rfl) rfl dX1_ticksOfCheck_5 ?_
  refine lv_aload_n hx hb dX1_ticksOfCheck_6 rfl (lv_at hl 0 rfl) ?_
  refine va_get (D := D) (ci := 2) (v := .ref (ad (b + 1))) (C := RX1) (T := TX1) (N := 17) hx hb hW inlX1 hown hK hP 0 rfl rfl 0 (by decide) (hW _ wd_34) (fun _ h9 => h9) rfl dX1_ticksOfCheck_7 ?_
  refine lv_iconst (v := 2) hx hb dX1_ticksOfCheck_10 (by decide) ?_
  refine z_iald (v := (u.1 2)) hx hb hK hP 1 0 rfl rfl (z_in rfl) rfl dX1_ticksOfCheck_11 ?_
  refine lv_aload_n hx hb dX1_ticksOfCheck_12 rfl (lv_at hl 0 rfl) ?_
  refine va_get (D := D) (ci := 2) (v := .ref (ad (b + 3))) (C := RX1) (T := TX1) (N := 17) hx hb hW inlX1 hown hK hP 0 rfl rfl 2 (by decide) (hW _ wd_39) (fun _ h9 => h9) rfl dX1_ticksOfCheck_13 ?_
  refine lv_iload_n hx hb dX1_ticksOfCheck_16 rfl (lv_at hl 1 rfl) ?_
  refine lv_aload_n hx hb dX1_ticksOfCheck_17 rfl (lv_at hl 0 rfl) ?_
  refine va_get (D := D) (ci := 2) (v := .ref (ad (b + 1))) (C := RX1) (T := TX1) (N := 17) hx hb hW inlX1 hown hK hP 0 rfl rfl 0 (by decide) (hW _ wd_34) (fun _ h9 => h9) rfl dX1_ticksOfCheck_18 ?_
  refine lv_iconst (v := 3) hx hb dX1_ticksOfCheck_21 (by decide) ?_
  refine z_iald (v := (u.1 3)) hx hb hK hP 1 0 rfl rfl (z_in rfl) rfl dX1_ticksOfCheck_22 ?_
  replace hf := zb_s hf
  obtain ⟨r23, hr23, hf⟩ := hf
  refine z_Vi (rest := [.int (u.1 2), .int (u.1 1)]) C0 kX1_169 (c_X5_sumOf l D G ad (b + 3) u.2.2.1 p1 (u.1 3) r23 hr23) (pmX1_spots G ad (b) u) ((pmX1_spots G ad (b) u)).symm (ci := 6) (T := TX5) (N := 3) rfl rfl rfl ⟨Nat.le_of_ble_eq_true rfl, Nat.le_of_ble_eq_true rfl⟩ (Nat.le_of_ble_eq_true rfl) rfl hl.1 hP hD hS dX1_ticksOfCheck_23 (fun H locs hP hD hS => ?_)
  refine lv_imul hx hb dX1_ticksOfCheck_26 ?_
  refine lv_iadd hx hb dX1_ticksOfCheck_27 ?_
  obtain rfl := zo hf
  exact hret _ _ _ _ _ hP hD hS rfl dX1_ticksOfCheck_28
theorem kX1_173 : zLkV RX1 173 yX1_ticksOfCheck cX1_ticksOfCheck 2 (some .int) 1 := ⟨⟨wd_409, wd_410, wd_411, wd_14, wd_412⟩, by decide +kernel⟩
noncomputable def q_X1_beginCheck (u : tX1) (p1 : Int32) : Option (tX1) :=
  zb (q_X6_isSpan p1) fun r1 => (if r1 = 0 then some (u) else zb (q_X0_drop u.2.2.2.1 p1) fun r13 => zb (q_X1_ticksOfCheck (u.1, u.2.1, u.2.2.1, r13.2, u.2.2.2.2.1, u.2.2.2.2.2.1, u.2.2.2.2.2.2.1, u.2.2.2.2.2.2.2.1, u.2.2.2.2.2.2.2.2.1, p1, 0, u.2.2.2.2.2.2.2.2.2.2.2.1, u.2.2.2.2.2.2.2.2.2.2.2.2.1, u.2.2.2.2.2.2.2.2.2.2.2.2.2.1, u.2.2.2.2.2.2.2.2.2.2.2.2.2.2.1, u.2.2.2.2.2.2.2.2.2.2.2.2.2.2.2.1, u.2.2.2.2.2.2.2.2.2.2.2.2.2.2.2.2) p1) fun r30 => zb (q_X3_append u.2.2.2.2.1 u.2.2.2.2.2.2.2.1 1 p1) fun r46 => some ((u.1, u.2.1, u.2.2.1, r13.2, r46, u.2.2.2.2.2.1, u.2.2.2.2.2.2.1, u.2.2.2.2.2.2.2.1, u.2.2.2.2.2.2.2.2.1, p1, 0, r30, u.2.2.2.2.2.2.2.2.2.2.2.2.1, u.2.2.2.2.2.2.2.2.2.2.2.2.2.1, u.2.2.2.2.2.2.2.2.2.2.2.2.2.2.1, u.2.2.2.2.2.2.2.2.2.2.2.2.2.2.2.1, u.2.2.2.2.2.2.2.2.2.2.2.2.2.2.2.2)))
set_option maxRecDepth 100000 in
set_option maxHeartbeats 4000000 in
theorem c_X1_beginCheck (l : Launch) (D : va_G) (G : zG) (ad : Nat → Nat) (b : Nat) (u : tX1) (p1 : Int32) (res : tX1) (hf : q_X1_beginCheck u p1 = some res) : zMv l yX1_beginCheck cX1_beginCheck 2 none 3 77 D G (wX1 G ad b u) (wX1 G ad b res) [.ref (ad b), .int p1] := by
  refine zs_v (plainFor_of_name (by decide)) (Nat.le_of_ble_eq_true rfl) ?_
  intro p e s m args below meth c A Q H ls C0 hret hP hD hS hl
  obtain ⟨hx, hb, hml, hown, hW, hK, hlocks, hF, hr, hA⟩ := id C0
  replace hl : lv_has ls 2 [(0, .ref (ad b)), (1, .int p1)] := hl
  unfold q_X1_beginCheck at hf
  refine lv_iload_n hx hb dX1_beginCheck_0 rfl (lv_at hl 1 rfl) ?_
  replace hf := zb_s hf
  obtain ⟨r1, hr1, hf⟩ := hf
  refine z_Ni (rest := []) C0 kX1_105 (c_X6_isSpan l D G p1 r1 hr1) (List.Perm.refl _) (List.Perm.refl _) rfl ⟨Nat.le_of_ble_eq_true rfl, Nat.le_of_ble_eq_true rfl⟩ (Nat.le_of_ble_eq_true rfl) rfl hl.1 hP hD hS dX1_beginCheck_1 (fun H locs hP hD hS => ?_)
  refine lv_if_ne (tgt := 8) hx hb dX1_beginCheck_4 (by decide) (fun c4 => ?_) (fun c4 => ?_)
  · replace hf := zi_n hf c4
    refine lv_aload_n hx hb dX1_beginCheck_8 rfl (lv_at hl 0 rfl) ?_
    refine va_get (D := D) (ci := 2) (v := .ref (ad (b + 6))) (C := RX1) (T := TX1) (N := 17) hx hb hW inlX1 hown hK hP 0 rfl rfl 3 (by decide) (hW _ wd_43) (fun _ h9 => h9) rfl dX1_beginCheck_9 ?_
    refine lv_iload_n hx hb dX1_beginCheck_12 rfl (lv_at hl 1 rfl) ?_
    replace hf := zb_s hf
    obtain ⟨r13, hr13, hf⟩ := hf
    refine z_Vi (rest := []) C0 kX1_124 (c_X0_drop l D G ad (b + 6) u.2.2.2.1 p1 r13 hr13) (pmX1_asked G ad (b) u) (pnX1_asked G ad (b) u r13.2) (ci := 1) (T := TX0) (N := 2) rfl rfl rfl ⟨Nat.le_of_ble_eq_true rfl, Nat.le_of_ble_eq_true rfl⟩ (Nat.le_of_ble_eq_true rfl) rfl hl.1 hP hD hS dX1_beginCheck_13 (fun H locs hP hD hS => ?_)
    replace hP : va_P D vwCl (wX1 G ad b (u.1, u.2.1, u.2.2.1, r13.2, u.2.2.2.2.1, u.2.2.2.2.2.1, u.2.2.2.2.2.2.1, u.2.2.2.2.2.2.2.1, u.2.2.2.2.2.2.2.2.1, u.2.2.2.2.2.2.2.2.2.1, u.2.2.2.2.2.2.2.2.2.2.1, u.2.2.2.2.2.2.2.2.2.2.2.1, u.2.2.2.2.2.2.2.2.2.2.2.2.1, u.2.2.2.2.2.2.2.2.2.2.2.2.2.1, u.2.2.2.2.2.2.2.2.2.2.2.2.2.2.1, u.2.2.2.2.2.2.2.2.2.2.2.2.2.2.2.1, u.2.2.2.2.2.2.2.2.2.2.2.2.2.2.2.2)) H := hP
    replace hD : va_D A (wX1 G ad b (u.1, u.2.1, u.2.2.1, r13.2, u.2.2.2.2.1, u.2.2.2.2.2.1, u.2.2.2.2.2.2.1, u.2.2.2.2.2.2.2.1, u.2.2.2.2.2.2.2.2.1, u.2.2.2.2.2.2.2.2.2.1, u.2.2.2.2.2.2.2.2.2.2.1, u.2.2.2.2.2.2.2.2.2.2.2.1, u.2.2.2.2.2.2.2.2.2.2.2.2.1, u.2.2.2.2.2.2.2.2.2.2.2.2.2.1, u.2.2.2.2.2.2.2.2.2.2.2.2.2.2.1, u.2.2.2.2.2.2.2.2.2.2.2.2.2.2.2.1, u.2.2.2.2.2.2.2.2.2.2.2.2.2.2.2.2)) := hD
    refine lv_pop hx hb dX1_beginCheck_16 rfl ?_
    refine lv_aload_n hx hb dX1_beginCheck_17 rfl (lv_at hl 0 rfl) ?_
    refine lv_iload_n hx hb dX1_beginCheck_18 rfl (lv_at hl 1 rfl) ?_
    refine z_put (ws' := wX1 G ad b (u.1, u.2.1, u.2.2.1, r13.2, u.2.2.2.2.1, u.2.2.2.2.2.1, u.2.2.2.2.2.2.1, u.2.2.2.2.2.2.2.1, u.2.2.2.2.2.2.2.2.1, p1, u.2.2.2.2.2.2.2.2.2.2.1, u.2.2.2.2.2.2.2.2.2.2.2.1, u.2.2.2.2.2.2.2.2.2.2.2.2.1, u.2.2.2.2.2.2.2.2.2.2.2.2.2.1, u.2.2.2.2.2.2.2.2.2.2.2.2.2.2.1, u.2.2.2.2.2.2.2.2.2.2.2.2.2.2.2.1, u.2.2.2.2.2.2.2.2.2.2.2.2.2.2.2.2)) (ci := 2) (C := RX1) (T := TX1) (N := 17) hx hb hW inlX1 tyX1 tyX1_ok nmX1 hown hK hP hD hS 0 rfl rfl 9 (by decide) (hW _ wd_52) rfl rfl (Nat.le_of_ble_eq_true rfl) rfl dX1_beginCheck_19 (fun H locs hP hD hS => ?_)
    refine lv_aload_n hx hb dX1_beginCheck_22 rfl (lv_at hl 0 rfl) ?_
    refine lv_iconst (v := 0) hx hb dX1_beginCheck_23 (by decide) ?_
    refine z_put (ws' := wX1 G ad b (u.1, u.2.1, u.2.2.1, r13.2, u.2.2.2.2.1, u.2.2.2.2.2.1, u.2.2.2.2.2.2.1, u.2.2.2.2.2.2.2.1, u.2.2.2.2.2.2.2.2.1, p1, 0, u.2.2.2.2.2.2.2.2.2.2.2.1, u.2.2.2.2.2.2.2.2.2.2.2.2.1, u.2.2.2.2.2.2.2.2.2.2.2.2.2.1, u.2.2.2.2.2.2.2.2.2.2.2.2.2.2.1, u.2.2.2.2.2.2.2.2.2.2.2.2.2.2.2.1, u.2.2.2.2.2.2.2.2.2.2.2.2.2.2.2.2)) (ci := 2) (C := RX1) (T := TX1) (N := 17) hx hb hW inlX1 tyX1 tyX1_ok nmX1 hown hK hP hD hS 0 rfl rfl 10 (by decide) (hW _ wd_53) rfl rfl (Nat.le_of_ble_eq_true rfl) rfl dX1_beginCheck_24 (fun H locs hP hD hS => ?_)
    refine lv_aload_n hx hb dX1_beginCheck_27 rfl (lv_at hl 0 rfl) ?_
    refine lv_aload_n hx hb dX1_beginCheck_28 rfl (lv_at hl 0 rfl) ?_
    refine lv_iload_n hx hb dX1_beginCheck_29 rfl (lv_at hl 1 rfl) ?_
    replace hf := zb_s hf
    obtain ⟨r30, hr30, hf⟩ := hf
    refine z_Vi (rest := [.ref (ad b)]) C0 kX1_173 (c_X1_ticksOfCheck l D G ad (b) (u.1, u.2.1, u.2.2.1, r13.2, u.2.2.2.2.1, u.2.2.2.2.2.1, u.2.2.2.2.2.2.1, u.2.2.2.2.2.2.2.1, u.2.2.2.2.2.2.2.2.1, p1, 0, u.2.2.2.2.2.2.2.2.2.2.2.1, u.2.2.2.2.2.2.2.2.2.2.2.2.1, u.2.2.2.2.2.2.2.2.2.2.2.2.2.1, u.2.2.2.2.2.2.2.2.2.2.2.2.2.2.1, u.2.2.2.2.2.2.2.2.2.2.2.2.2.2.2.1, u.2.2.2.2.2.2.2.2.2.2.2.2.2.2.2.2) p1 r30 hr30) z_pall z_pall.symm (ci := 2) (T := TX1) (N := 17) rfl rfl rfl ⟨Nat.le_of_ble_eq_true rfl, Nat.le_of_ble_eq_true rfl⟩ (Nat.le_of_ble_eq_true rfl) rfl hl.1 hP hD hS dX1_beginCheck_30 (fun H locs hP hD hS => ?_)
    refine z_put (ws' := wX1 G ad b (u.1, u.2.1, u.2.2.1, r13.2, u.2.2.2.2.1, u.2.2.2.2.2.1, u.2.2.2.2.2.2.1, u.2.2.2.2.2.2.2.1, u.2.2.2.2.2.2.2.2.1, p1, 0, r30, u.2.2.2.2.2.2.2.2.2.2.2.2.1, u.2.2.2.2.2.2.2.2.2.2.2.2.2.1, u.2.2.2.2.2.2.2.2.2.2.2.2.2.2.1, u.2.2.2.2.2.2.2.2.2.2.2.2.2.2.2.1, u.2.2.2.2.2.2.2.2.2.2.2.2.2.2.2.2)) (ci := 2) (C := RX1) (T := TX1) (N := 17) hx hb hW inlX1 tyX1 tyX1_ok nmX1 hown hK hP hD hS 0 rfl rfl 11 (by decide) (hW _ wd_54) rfl rfl (Nat.le_of_ble_eq_true rfl) rfl dX1_beginCheck_33 (fun H locs hP hD hS => ?_)
    refine lv_aload_n hx hb dX1_beginCheck_36 rfl (lv_at hl 0 rfl) ?_
    refine va_get (D := D) (ci := 2) (v := .ref (ad (b + 8))) (C := RX1) (T := TX1) (N := 17) hx hb hW inlX1 hown hK hP 0 rfl rfl 4 (by decide) (hW _ wd_47) (fun _ h9 => h9) rfl dX1_beginCheck_37 ?_
    refine lv_aload_n hx hb dX1_beginCheck_40 rfl (lv_at hl 0 rfl) ?_
    refine va_get (D := D) (ci := 2) (v := .int u.2.2.2.2.2.2.2.1) (C := RX1) (T := TX1) (N := 17) hx hb hW inlX1 hown hK hP 0 rfl rfl 7 (by decide) (hW _ wd_50) (fun _ h9 => h9) rfl dX1_beginCheck_41 ?_
    refine lv_iconst (v := 1) hx hb dX1_beginCheck_44 (by decide) ?_
    refine lv_iload_n hx hb dX1_beginCheck_45 rfl (lv_at hl 1 rfl) ?_
    replace hf := zb_s hf
    obtain ⟨r46, hr46, hf⟩ := hf
    refine z_Vv (rest := []) C0 kX1_134 (c_X3_append l D G ad (b + 8) u.2.2.2.2.1 u.2.2.2.2.2.2.2.1 1 p1 r46 hr46) (pmX1_log G ad (b) (u.1, u.2.1, u.2.2.1, r13.2, u.2.2.2.2.1, u.2.2.2.2.2.1, u.2.2.2.2.2.2.1, u.2.2.2.2.2.2.2.1, u.2.2.2.2.2.2.2.2.1, p1, 0, r30, u.2.2.2.2.2.2.2.2.2.2.2.2.1, u.2.2.2.2.2.2.2.2.2.2.2.2.2.1, u.2.2.2.2.2.2.2.2.2.2.2.2.2.2.1, u.2.2.2.2.2.2.2.2.2.2.2.2.2.2.2.1, u.2.2.2.2.2.2.2.2.2.2.2.2.2.2.2.2)) (pnX1_log G ad (b) (u.1, u.2.1, u.2.2.1, r13.2, u.2.2.2.2.1, u.2.2.2.2.2.1, u.2.2.2.2.2.2.1, u.2.2.2.2.2.2.2.1, u.2.2.2.2.2.2.2.2.1, p1, 0, r30, u.2.2.2.2.2.2.2.2.2.2.2.2.1, u.2.2.2.2.2.2.2.2.2.2.2.2.2.1, u.2.2.2.2.2.2.2.2.2.2.2.2.2.2.1, u.2.2.2.2.2.2.2.2.2.2.2.2.2.2.2.1, u.2.2.2.2.2.2.2.2.2.2.2.2.2.2.2.2) r46) (ci := 4) (T := TX3) (N := 5) rfl rfl rfl ⟨Nat.le_of_ble_eq_true rfl, Nat.le_of_ble_eq_true rfl⟩ (Nat.le_of_ble_eq_true rfl) rfl hl.1 hP hD hS dX1_beginCheck_46 (fun H locs hP hD hS => ?_)
    replace hP : va_P D vwCl (wX1 G ad b (u.1, u.2.1, u.2.2.1, r13.2, r46, u.2.2.2.2.2.1, u.2.2.2.2.2.2.1, u.2.2.2.2.2.2.2.1, u.2.2.2.2.2.2.2.2.1, p1, 0, r30, u.2.2.2.2.2.2.2.2.2.2.2.2.1, u.2.2.2.2.2.2.2.2.2.2.2.2.2.1, u.2.2.2.2.2.2.2.2.2.2.2.2.2.2.1, u.2.2.2.2.2.2.2.2.2.2.2.2.2.2.2.1, u.2.2.2.2.2.2.2.2.2.2.2.2.2.2.2.2)) H := hP
    replace hD : va_D A (wX1 G ad b (u.1, u.2.1, u.2.2.1, r13.2, r46, u.2.2.2.2.2.1, u.2.2.2.2.2.2.1, u.2.2.2.2.2.2.2.1, u.2.2.2.2.2.2.2.2.1, p1, 0, r30, u.2.2.2.2.2.2.2.2.2.2.2.2.1, u.2.2.2.2.2.2.2.2.2.2.2.2.2.1, u.2.2.2.2.2.2.2.2.2.2.2.2.2.2.1, u.2.2.2.2.2.2.2.2.2.2.2.2.2.2.2.1, u.2.2.2.2.2.2.2.2.2.2.2.2.2.2.2.2)) := hD
    obtain rfl := zo hf
    exact hret _ _ _ _ hP hD hS dX1_beginCheck_49
  · replace hf := zi_p hf c4
    obtain rfl := zo hf
    exact hret _ _ _ _ hP hD hS dX1_beginCheck_7
noncomputable def q_X1_clearCheck (u : tX1) : Option (Int32 × Int32 × Int32) :=
  some ((-6), 0, 0)
set_option maxRecDepth 100000 in
set_option maxHeartbeats 4000000 in
theorem c_X1_clearCheck (l : Launch) (D : va_G) (G : zG) (ad : Nat → Nat) (b : Nat) (u : tX1) (res : Int32 × Int32 × Int32) (hf : q_X1_clearCheck u = some res) : zMv l yX1_clearCheck cX1_clearCheck 1 none 0 0 D G (wX1 G ad b u) (wX1 G ad b (u.1, u.2.1, u.2.2.1, u.2.2.2.1, u.2.2.2.2.1, u.2.2.2.2.2.1, u.2.2.2.2.2.2.1, u.2.2.2.2.2.2.2.1, u.2.2.2.2.2.2.2.2.1, res.1, res.2.1, res.2.2, u.2.2.2.2.2.2.2.2.2.2.2.2.1, u.2.2.2.2.2.2.2.2.2.2.2.2.2.1, u.2.2.2.2.2.2.2.2.2.2.2.2.2.2.1, u.2.2.2.2.2.2.2.2.2.2.2.2.2.2.2.1, u.2.2.2.2.2.2.2.2.2.2.2.2.2.2.2.2)) [.ref (ad b)] := by
  refine zs_v (plainFor_of_name (by decide)) (Nat.le_of_ble_eq_true rfl) ?_
  intro p e s m args below meth c A Q H ls C0 hret hP hD hS hl
  obtain ⟨hx, hb, hml, hown, hW, hK, hlocks, hF, hr, hA⟩ := id C0
  replace hl : lv_has ls 1 [(0, .ref (ad b))] := hl
  unfold q_X1_clearCheck at hf
  refine lv_aload_n hx hb dX1_clearCheck_0 rfl (lv_at hl 0 rfl) ?_
  refine lv_bipush (v := (-6)) hx hb dX1_clearCheck_1 (by decide) ?_
  refine z_put (ws' := wX1 G ad b (u.1, u.2.1, u.2.2.1, u.2.2.2.1, u.2.2.2.2.1, u.2.2.2.2.2.1, u.2.2.2.2.2.2.1, u.2.2.2.2.2.2.2.1, u.2.2.2.2.2.2.2.2.1, (-6), u.2.2.2.2.2.2.2.2.2.2.1, u.2.2.2.2.2.2.2.2.2.2.2.1, u.2.2.2.2.2.2.2.2.2.2.2.2.1, u.2.2.2.2.2.2.2.2.2.2.2.2.2.1, u.2.2.2.2.2.2.2.2.2.2.2.2.2.2.1, u.2.2.2.2.2.2.2.2.2.2.2.2.2.2.2.1, u.2.2.2.2.2.2.2.2.2.2.2.2.2.2.2.2)) (ci := 2) (C := RX1) (T := TX1) (N := 17) hx hb hW inlX1 tyX1 tyX1_ok nmX1 hown hK hP hD hS 0 rfl rfl 9 (by decide) (hW _ wd_52) rfl rfl (Nat.le_of_ble_eq_true rfl) rfl dX1_clearCheck_3 (fun H locs hP hD hS => ?_)
  refine lv_aload_n hx hb dX1_clearCheck_6 rfl (lv_at hl 0 rfl) ?_
  refine lv_iconst (v := 0) hx hb dX1_clearCheck_7 (by decide) ?_
  refine z_put (ws' := wX1 G ad b (u.1, u.2.1, u.2.2.1, u.2.2.2.1, u.2.2.2.2.1, u.2.2.2.2.2.1, u.2.2.2.2.2.2.1, u.2.2.2.2.2.2.2.1, u.2.2.2.2.2.2.2.2.1, (-6), 0, u.2.2.2.2.2.2.2.2.2.2.2.1, u.2.2.2.2.2.2.2.2.2.2.2.2.1, u.2.2.2.2.2.2.2.2.2.2.2.2.2.1, u.2.2.2.2.2.2.2.2.2.2.2.2.2.2.1, u.2.2.2.2.2.2.2.2.2.2.2.2.2.2.2.1, u.2.2.2.2.2.2.2.2.2.2.2.2.2.2.2.2)) (ci := 2) (C := RX1) (T := TX1) (N := 17) hx hb hW inlX1 tyX1 tyX1_ok nmX1 hown hK hP hD hS 0 rfl rfl 10 (by decide) (hW _ wd_53) rfl rfl (Nat.le_of_ble_eq_true rfl) rfl dX1_clearCheck_8 (fun H locs hP hD hS => ?_)
  refine lv_aload_n hx hb dX1_clearCheck_11 rfl (lv_at hl 0 rfl) ?_
  refine lv_iconst (v := 0) hx hb dX1_clearCheck_12 (by decide) ?_
  refine z_put (ws' := wX1 G ad b (u.1, u.2.1, u.2.2.1, u.2.2.2.1, u.2.2.2.2.1, u.2.2.2.2.2.1, u.2.2.2.2.2.2.1, u.2.2.2.2.2.2.2.1, u.2.2.2.2.2.2.2.2.1, (-6), 0, 0, u.2.2.2.2.2.2.2.2.2.2.2.2.1, u.2.2.2.2.2.2.2.2.2.2.2.2.2.1, u.2.2.2.2.2.2.2.2.2.2.2.2.2.2.1, u.2.2.2.2.2.2.2.2.2.2.2.2.2.2.2.1, u.2.2.2.2.2.2.2.2.2.2.2.2.2.2.2.2)) (ci := 2) (C := RX1) (T := TX1) (N := 17) hx hb hW inlX1 tyX1 tyX1_ok nmX1 hown hK hP hD hS 0 rfl rfl 11 (by decide) (hW _ wd_54) rfl rfl (Nat.le_of_ble_eq_true rfl) rfl dX1_clearCheck_13 (fun H locs hP hD hS => ?_)
  obtain rfl := zo hf
  exact hret _ _ _ _ hP hD hS dX1_clearCheck_16
noncomputable def q_X1_lookAtSpot (u : tX1) (p1 : Int32) (p2 : Int32) (p3 : Int32) : Option (tX5 × tX3 × Int32 × Int32) :=
  (if p2 = p1 then (if (u.1 3) ≤ p3 then (if u.2.2.2.2.2.2.1 ≤ 0 then zb (q_X5_append u.2.2.1 p2 p3) fun r92 => zb (q_X3_append u.2.2.2.2.1 u.2.2.2.2.2.2.2.1 5 p1) fun r106 => some (r92.2, r106, u.2.2.2.2.2.2.1, u.2.2.2.2.2.2.2.2.2.2.2.2.2.2.2.1) else zn (u.2.2.2.2.2.2.1 - 1) fun k57 => zn (u.2.2.2.2.2.2.2.2.2.2.2.2.2.2.2.1 + 1) fun k67 => zb (q_X3_append u.2.2.2.2.1 u.2.2.2.2.2.2.2.1 4 p1) fun r80 => some (u.2.2.1, r80, k57, k67)) else zb (q_X5_append u.2.2.1 p2 (p3 + 1)) fun r36 => some (r36.2, u.2.2.2.2.1, u.2.2.2.2.2.2.1, u.2.2.2.2.2.2.2.2.2.2.2.2.2.2.2.1)) else zb (q_X5_append u.2.2.1 p2 p3) fun r11 => some (r11.2, u.2.2.2.2.1, u.2.2.2.2.2.2.1, u.2.2.2.2.2.2.2.2.2.2.2.2.2.2.2.1))
set_option maxRecDepth 100000 in
set_option maxHeartbeats 4000000 in
theorem c_X1_lookAtSpot (l : Launch) (D : va_G) (G : zG) (ad : Nat → Nat) (b : Nat) (u : tX1) (p1 : Int32) (p2 : Int32) (p3 : Int32) (res : tX5 × tX3 × Int32 × Int32) (hf : q_X1_lookAtSpot u p1 p2 p3 = some res) : zMv l yX1_lookAtSpot cX1_lookAtSpot 4 none 1 23 D G (wX1 G ad b u) (wX1 G ad b (u.1, u.2.1, res.1, u.2.2.2.1, res.2.1, u.2.2.2.2.2.1, res.2.2.1, u.2.2.2.2.2.2.2.1, u.2.2.2.2.2.2.2.2.1, u.2.2.2.2.2.2.2.2.2.1, u.2.2.2.2.2.2.2.2.2.2.1, u.2.2.2.2.2.2.2.2.2.2.2.1, u.2.2.2.2.2.2.2.2.2.2.2.2.1, u.2.2.2.2.2.2.2.2.2.2.2.2.2.1, u.2.2.2.2.2.2.2.2.2.2.2.2.2.2.1, res.2.2.2, u.2.2.2.2.2.2.2.2.2.2.2.2.2.2.2.2)) [.ref (ad b), .int p1, .int p2, .int p3] := by
  refine zs_v (plainFor_of_name (by decide)) (Nat.le_of_ble_eq_true rfl) ?_
  intro p e s m args below meth c A Q H ls C0 hret hP hD hS hl
  obtain ⟨hx, hb, hml, hown, hW, hK, hlocks, hF, hr, hA⟩ := id C0
  replace hl : lv_has ls 4 [(0, .ref (ad b)), (1, .int p1), (2, .int p2), (3, .int p3)] := hl
  unfold q_X1_lookAtSpot at hf
  refine lv_iload_n hx hb dX1_lookAtSpot_0 rfl (lv_at hl 2 rfl) ?_
  refine lv_iload_n hx hb dX1_lookAtSpot_1 rfl (lv_at hl 1 rfl) ?_
  refine lv_icmp_eq (tgt := 18) hx hb dX1_lookAtSpot_2 (by decide) (fun c2 => ?_) (fun c2 => ?_)
  · replace hf := zi_p hf c2
    refine lv_iload_n hx hb dX1_lookAtSpot_18 rfl (lv_at hl 3 rfl) ?_
    refine lv_aload_n hx hb dX1_lookAtSpot_19 rfl (lv_at hl 0 rfl) ?_
    refine va_get (D := D) (ci := 2) (v := .ref (ad (b + 1))) (C := RX1) (T := TX1) (N := 17) hx hb hW inlX1 hown hK hP 0 rfl rfl 0 (by decide) (hW _ wd_34) (fun _ h9 => h9) rfl dX1_lookAtSpot_20 ?_
    refine lv_iconst (v := 3) hx hb dX1_lookAtSpot_23 (by decide) ?_
    refine z_iald (v := (u.1 3)) hx hb hK hP 1 0 rfl rfl (z_in rfl) rfl dX1_lookAtSpot_24 ?_
    refine lv_icmp_ge (tgt := 43) hx hb dX1_lookAtSpot_25 (by decide) (fun c25 => ?_) (fun c25 => ?_)
    · replace hf := zi_p hf c25
      refine lv_aload_n hx hb dX1_lookAtSpot_43 rfl (lv_at hl 0 rfl) ?_
      refine va_get (D := D) (ci := 2) (v := .int u.2.2.2.2.2.2.1) (C := RX1) (T := TX1) (N := 17) hx hb hW inlX1 hown hK hP 0 rfl rfl 6 (by decide) (hW _ wd_49) (fun _ h9 => h9) rfl dX1_lookAtSpot_44 ?_
      refine lv_if_le (tgt := 86) hx hb dX1_lookAtSpot_47 (by decide) (fun c47 => ?_) (fun c47 => ?_)
      · replace hf := zi_p hf c47
        refine lv_aload_n hx hb dX1_lookAtSpot_86 rfl (lv_at hl 0 rfl) ?_
        refine va_get (D := D) (ci := 2) (v := .ref (ad (b + 3))) (C := RX1) (T := TX1) (N := 17) hx hb hW inlX1 hown hK hP 0 rfl rfl 2 (by decide) (hW _ wd_39) (fun _ h9 => h9) rfl dX1_lookAtSpot_87 ?_
        refine lv_iload_n hx hb dX1_lookAtSpot_90 rfl (lv_at hl 2 rfl) ?_
        refine lv_iload_n hx hb dX1_lookAtSpot_91 rfl (lv_at hl 3 rfl) ?_
        replace hf := zb_s hf
        obtain ⟨r92, hr92, hf⟩ := hf
        refine z_Vi (rest := []) C0 kX1_108 (c_X5_append l D G ad (b + 3) u.2.2.1 p2 p3 r92 hr92) (pmX1_spots G ad (b) u) (pnX1_spots G ad (b) u r92.2) (ci := 6) (T := TX5) (N := 3) rfl rfl rfl ⟨Nat.le_of_ble_eq_true rfl, Nat.le_of_ble_eq_true rfl⟩ (Nat.le_of_ble_eq_true rfl) rfl hl.1 hP hD hS dX1_lookAtSpot_92 (fun H locs hP hD hS => ?_)
        replace hP : va_P D vwCl (wX1 G ad b (u.1, u.2.1, r92.2, u.2.2.2.1, u.2.2.2.2.1, u.2.2.2.2.2.1, u.2.2.2.2.2.2.1, u.2.2.2.2.2.2.2.1, u.2.2.2.2.2.2.2.2.1, u.2.2.2.2.2.2.2.2.2.1, u.2.2.2.2.2.2.2.2.2.2.1, u.2.2.2.2.2.2.2.2.2.2.2.1, u.2.2.2.2.2.2.2.2.2.2.2.2.1, u.2.2.2.2.2.2.2.2.2.2.2.2.2.1, u.2.2.2.2.2.2.2.2.2.2.2.2.2.2.1, u.2.2.2.2.2.2.2.2.2.2.2.2.2.2.2.1, u.2.2.2.2.2.2.2.2.2.2.2.2.2.2.2.2)) H := hP
        replace hD : va_D A (wX1 G ad b (u.1, u.2.1, r92.2, u.2.2.2.1, u.2.2.2.2.1, u.2.2.2.2.2.1, u.2.2.2.2.2.2.1, u.2.2.2.2.2.2.2.1, u.2.2.2.2.2.2.2.2.1, u.2.2.2.2.2.2.2.2.2.1, u.2.2.2.2.2.2.2.2.2.2.1, u.2.2.2.2.2.2.2.2.2.2.2.1, u.2.2.2.2.2.2.2.2.2.2.2.2.1, u.2.2.2.2.2.2.2.2.2.2.2.2.2.1, u.2.2.2.2.2.2.2.2.2.2.2.2.2.2.1, u.2.2.2.2.2.2.2.2.2.2.2.2.2.2.2.1, u.2.2.2.2.2.2.2.2.2.2.2.2.2.2.2.2)) := hD
        refine lv_pop hx hb dX1_lookAtSpot_95 rfl ?_
        refine lv_aload_n hx hb dX1_lookAtSpot_96 rfl (lv_at hl 0 rfl) ?_
        refine va_get (D := D) (ci := 2) (v := .ref (ad (b + 8))) (C := RX1) (T := TX1) (N := 17) hx hb hW inlX1 hown hK hP 0 rfl rfl 4 (by decide) (hW _ wd_47) (fun _ h9 => h9) rfl dX1_lookAtSpot_97 ?_
        refine lv_aload_n hx hb dX1_lookAtSpot_100 rfl (lv_at hl 0 rfl) ?_
        refine va_get (D := D) (ci := 2) (v := .int u.2.2.2.2.2.2.2.1) (C := RX1) (T := TX1) (N := 17) hx hb hW inlX1 hown hK hP 0 rfl rfl 7 (by decide) (hW _ wd_50) (fun _ h9 => h9) rfl dX1_lookAtSpot_101 ?_
        refine lv_iconst (v := 5) hx hb dX1_lookAtSpot_104 (by decide) ?_
        refine lv_iload_n hx hb dX1_lookAtSpot_105 rfl (lv_at hl 1 rfl) ?_
        replace hf := zb_s hf
        obtain ⟨r106, hr106, hf⟩ := hf
        refine z_Vv (rest := []) C0 kX1_134 (c_X3_append l D G ad (b + 8) u.2.2.2.2.1 u.2.2.2.2.2.2.2.1 5 p1 r106 hr106) (pmX1_log G ad (b) (u.1, u.2.1, r92.2, u.2.2.2.1, u.2.2.2.2.1, u.2.2.2.2.2.1, u.2.2.2.2.2.2.1, u.2.2.2.2.2.2.2.1, u.2.2.2.2.2.2.2.2.1, u.2.2.2.2.2.2.2.2.2.1, u.2.2.2.2.2.2.2.2.2.2.1, u.2.2.2.2.2.2.2.2.2.2.2.1, u.2.2.2.2.2.2.2.2.2.2.2.2.1, u.2.2.2.2.2.2.2.2.2.2.2.2.2.1, u.2.2.2.2.2.2.2.2.2.2.2.2.2.2.1, u.2.2.2.2.2.2.2.2.2.2.2.2.2.2.2.1, u.2.2.2.2.2.2.2.2.2.2.2.2.2.2.2.2)) (pnX1_log G ad (b) (u.1, u.2.1, r92.2, u.2.2.2.1, u.2.2.2.2.1, u.2.2.2.2.2.1, u.2.2.2.2.2.2.1, u.2.2.2.2.2.2.2.1, u.2.2.2.2.2.2.2.2.1, u.2.2.2.2.2.2.2.2.2.1, u.2.2.2.2.2.2.2.2.2.2.1, u.2.2.2.2.2.2.2.2.2.2.2.1, u.2.2.2.2.2.2.2.2.2.2.2.2.1, u.2.2.2.2.2.2.2.2.2.2.2.2.2.1, u.2.2.2.2.2.2.2.2.2.2.2.2.2.2.1, u.2.2.2.2.2.2.2.2.2.2.2.2.2.2.2.1, u.2.2.2.2.2.2.2.2.2.2.2.2.2.2.2.2) r106) (ci := 4) (T := TX3) (N := 5) rfl rfl rfl ⟨Nat.le_of_ble_eq_true rfl, Nat.le_of_ble_eq_true rfl⟩ (Nat.le_of_ble_eq_true rfl) rfl hl.1 hP hD hS dX1_lookAtSpot_106 (fun H locs hP hD hS => ?_)
        replace hP : va_P D vwCl (wX1 G ad b (u.1, u.2.1, r92.2, u.2.2.2.1, r106, u.2.2.2.2.2.1, u.2.2.2.2.2.2.1, u.2.2.2.2.2.2.2.1, u.2.2.2.2.2.2.2.2.1, u.2.2.2.2.2.2.2.2.2.1, u.2.2.2.2.2.2.2.2.2.2.1, u.2.2.2.2.2.2.2.2.2.2.2.1, u.2.2.2.2.2.2.2.2.2.2.2.2.1, u.2.2.2.2.2.2.2.2.2.2.2.2.2.1, u.2.2.2.2.2.2.2.2.2.2.2.2.2.2.1, u.2.2.2.2.2.2.2.2.2.2.2.2.2.2.2.1, u.2.2.2.2.2.2.2.2.2.2.2.2.2.2.2.2)) H := hP
        replace hD : va_D A (wX1 G ad b (u.1, u.2.1, r92.2, u.2.2.2.1, r106, u.2.2.2.2.2.1, u.2.2.2.2.2.2.1, u.2.2.2.2.2.2.2.1, u.2.2.2.2.2.2.2.2.1, u.2.2.2.2.2.2.2.2.2.1, u.2.2.2.2.2.2.2.2.2.2.1, u.2.2.2.2.2.2.2.2.2.2.2.1, u.2.2.2.2.2.2.2.2.2.2.2.2.1, u.2.2.2.2.2.2.2.2.2.2.2.2.2.1, u.2.2.2.2.2.2.2.2.2.2.2.2.2.2.1, u.2.2.2.2.2.2.2.2.2.2.2.2.2.2.2.1, u.2.2.2.2.2.2.2.2.2.2.2.2.2.2.2.2)) := hD
        obtain rfl := zo hf
        exact hret _ _ _ _ hP hD hS dX1_lookAtSpot_109
      · replace hf := zi_n hf c47
        refine lv_aload_n hx hb dX1_lookAtSpot_50 rfl (lv_at hl 0 rfl) ?_
        refine lv_dup hx hb dX1_lookAtSpot_51 rfl ?_
        refine va_get (D := D) (ci := 2) (v := .int u.2.2.2.2.2.2.1) (C := RX1) (T := TX1) (N := 17) hx hb hW inlX1 hown hK hP 0 rfl rfl 6 (by decide) (hW _ wd_49) (fun _ h9 => h9) rfl dX1_lookAtSpot_52 ?_
        refine lv_iconst (v := 1) hx hb dX1_lookAtSpot_55 (by decide) ?_
        refine lv_isub hx hb dX1_lookAtSpot_56 ?_
        replace hf := zn_s hf
        obtain ⟨k57, ek57, hf⟩ := hf
        refine z_top ek57 ?_
        refine z_put (ws' := wX1 G ad b (u.1, u.2.1, u.2.2.1, u.2.2.2.1, u.2.2.2.2.1, u.2.2.2.2.2.1, k57, u.2.2.2.2.2.2.2.1, u.2.2.2.2.2.2.2.2.1, u.2.2.2.2.2.2.2.2.2.1, u.2.2.2.2.2.2.2.2.2.2.1, u.2.2.2.2.2.2.2.2.2.2.2.1, u.2.2.2.2.2.2.2.2.2.2.2.2.1, u.2.2.2.2.2.2.2.2.2.2.2.2.2.1, u.2.2.2.2.2.2.2.2.2.2.2.2.2.2.1, u.2.2.2.2.2.2.2.2.2.2.2.2.2.2.2.1, u.2.2.2.2.2.2.2.2.2.2.2.2.2.2.2.2)) (ci := 2) (C := RX1) (T := TX1) (N := 17) hx hb hW inlX1 tyX1 tyX1_ok nmX1 hown hK hP hD hS 0 rfl rfl 6 (by decide) (hW _ wd_49) rfl rfl (Nat.le_of_ble_eq_true rfl) rfl dX1_lookAtSpot_57 (fun H locs hP hD hS => ?_)
        refine lv_aload_n hx hb dX1_lookAtSpot_60 rfl (lv_at hl 0 rfl) ?_
        refine lv_dup hx hb dX1_lookAtSpot_61 rfl ?_
        refine va_get (D := D) (ci := 2) (v := .int u.2.2.2.2.2.2.2.2.2.2.2.2.2.2.2.1) (C := RX1) (T := TX1) (N := 17) hx hb hW inlX1 hown hK hP 0 rfl rfl 15 (by decide) (hW _ wd_58) (fun _ h9 => h9) rfl dX1_lookAtSpot_62 ?_
        refine lv_iconst (v := 1) hx hb dX1_lookAtSpot_65 (by decide) ?_
        refine lv_iadd hx hb dX1_lookAtSpot_66 ?_
        replace hf := zn_s hf
        obtain ⟨k67, ek67, hf⟩ := hf
        refine z_top ek67 ?_
        refine z_put (ws' := wX1 G ad b (u.1, u.2.1, u.2.2.1, u.2.2.2.1, u.2.2.2.2.1, u.2.2.2.2.2.1, k57, u.2.2.2.2.2.2.2.1, u.2.2.2.2.2.2.2.2.1, u.2.2.2.2.2.2.2.2.2.1, u.2.2.2.2.2.2.2.2.2.2.1, u.2.2.2.2.2.2.2.2.2.2.2.1, u.2.2.2.2.2.2.2.2.2.2.2.2.1, u.2.2.2.2.2.2.2.2.2.2.2.2.2.1, u.2.2.2.2.2.2.2.2.2.2.2.2.2.2.1, k67, u.2.2.2.2.2.2.2.2.2.2.2.2.2.2.2.2)) (ci := 2) (C := RX1) (T := TX1) (N := 17) hx hb hW inlX1 tyX1 tyX1_ok nmX1 hown hK hP hD hS 0 rfl rfl 15 (by decide) (hW _ wd_58) rfl rfl (Nat.le_of_ble_eq_true rfl) rfl dX1_lookAtSpot_67 (fun H locs hP hD hS => ?_)
        refine lv_aload_n hx hb dX1_lookAtSpot_70 rfl (lv_at hl 0 rfl) ?_
        refine va_get (D := D) (ci := 2) (v := .ref (ad (b + 8))) (C := RX1) (T := TX1) (N := 17) hx hb hW inlX1 hown hK hP 0 rfl rfl 4 (by decide) (hW _ wd_47) (fun _ h9 => h9) rfl dX1_lookAtSpot_71 ?_
        refine lv_aload_n hx hb dX1_lookAtSpot_74 rfl (lv_at hl 0 rfl) ?_
        refine va_get (D := D) (ci := 2) (v := .int u.2.2.2.2.2.2.2.1) (C := RX1) (T := TX1) (N := 17) hx hb hW inlX1 hown hK hP 0 rfl rfl 7 (by decide) (hW _ wd_50) (fun _ h9 => h9) rfl dX1_lookAtSpot_75 ?_
        refine lv_iconst (v := 4) hx hb dX1_lookAtSpot_78 (by decide) ?_
        refine lv_iload_n hx hb dX1_lookAtSpot_79 rfl (lv_at hl 1 rfl) ?_
        replace hf := zb_s hf
        obtain ⟨r80, hr80, hf⟩ := hf
        refine z_Vv (rest := []) C0 kX1_134 (c_X3_append l D G ad (b + 8) u.2.2.2.2.1 u.2.2.2.2.2.2.2.1 4 p1 r80 hr80) (pmX1_log G ad (b) (u.1, u.2.1, u.2.2.1, u.2.2.2.1, u.2.2.2.2.1, u.2.2.2.2.2.1, k57, u.2.2.2.2.2.2.2.1, u.2.2.2.2.2.2.2.2.1, u.2.2.2.2.2.2.2.2.2.1, u.2.2.2.2.2.2.2.2.2.2.1, u.2.2.2.2.2.2.2.2.2.2.2.1, u.2.2.2.2.2.2.2.2.2.2.2.2.1, u.2.2.2.2.2.2.2.2.2.2.2.2.2.1, u.2.2.2.2.2.2.2.2.2.2.2.2.2.2.1, k67, u.2.2.2.2.2.2.2.2.2.2.2.2.2.2.2.2)) (pnX1_log G ad (b) (u.1, u.2.1, u.2.2.1, u.2.2.2.1, u.2.2.2.2.1, u.2.2.2.2.2.1, k57, u.2.2.2.2.2.2.2.1, u.2.2.2.2.2.2.2.2.1, u.2.2.2.2.2.2.2.2.2.1, u.2.2.2.2.2.2.2.2.2.2.1, u.2.2.2.2.2.2.2.2.2.2.2.1, u.2.2.2.2.2.2.2.2.2.2.2.2.1, u.2.2.2.2.2.2.2.2.2.2.2.2.2.1, u.2.2.2.2.2.2.2.2.2.2.2.2.2.2.1, k67, u.2.2.2.2.2.2.2.2.2.2.2.2.2.2.2.2) r80) (ci := 4) (T := TX3) (N := 5) rfl rfl rfl ⟨Nat.le_of_ble_eq_true rfl, Nat.le_of_ble_eq_true rfl⟩ (Nat.le_of_ble_eq_true rfl) rfl hl.1 hP hD hS dX1_lookAtSpot_80 (fun H locs hP hD hS => ?_)
        replace hP : va_P D vwCl (wX1 G ad b (u.1, u.2.1, u.2.2.1, u.2.2.2.1, r80, u.2.2.2.2.2.1, k57, u.2.2.2.2.2.2.2.1, u.2.2.2.2.2.2.2.2.1, u.2.2.2.2.2.2.2.2.2.1, u.2.2.2.2.2.2.2.2.2.2.1, u.2.2.2.2.2.2.2.2.2.2.2.1, u.2.2.2.2.2.2.2.2.2.2.2.2.1, u.2.2.2.2.2.2.2.2.2.2.2.2.2.1, u.2.2.2.2.2.2.2.2.2.2.2.2.2.2.1, k67, u.2.2.2.2.2.2.2.2.2.2.2.2.2.2.2.2)) H := hP
        replace hD : va_D A (wX1 G ad b (u.1, u.2.1, u.2.2.1, u.2.2.2.1, r80, u.2.2.2.2.2.1, k57, u.2.2.2.2.2.2.2.1, u.2.2.2.2.2.2.2.2.1, u.2.2.2.2.2.2.2.2.2.1, u.2.2.2.2.2.2.2.2.2.2.1, u.2.2.2.2.2.2.2.2.2.2.2.1, u.2.2.2.2.2.2.2.2.2.2.2.2.1, u.2.2.2.2.2.2.2.2.2.2.2.2.2.1, u.2.2.2.2.2.2.2.2.2.2.2.2.2.2.1, k67, u.2.2.2.2.2.2.2.2.2.2.2.2.2.2.2.2)) := hD
        refine lv_goto (tgt := 109) hx hb dX1_lookAtSpot_83 (by decide) ?_
        obtain rfl := zo hf
        exact hret _ _ _ _ hP hD hS dX1_lookAtSpot_109
    · replace hf := zi_n hf c25
      refine lv_aload_n hx hb dX1_lookAtSpot_28 rfl (lv_at hl 0 rfl) ?_
      refine va_get (D := D) (ci := 2) (v := .ref (ad (b + 3))) (C := RX1) (T := TX1) (N := 17) hx hb hW inlX1 hown hK hP 0 rfl rfl 2 (by decide) (hW _ wd_39) (fun _ h9 => h9) rfl dX1_lookAtSpot_29 ?_
      refine lv_iload_n hx hb dX1_lookAtSpot_32 rfl (lv_at hl 2 rfl) ?_
      refine lv_iload_n hx hb dX1_lookAtSpot_33 rfl (lv_at hl 3 rfl) ?_
      refine lv_iconst (v := 1) hx hb dX1_lookAtSpot_34 (by decide) ?_
      refine lv_iadd hx hb dX1_lookAtSpot_35 ?_
      replace hf := zb_s hf
      obtain ⟨r36, hr36, hf⟩ := hf
      refine z_Vi (rest := []) C0 kX1_108 (c_X5_append l D G ad (b + 3) u.2.2.1 p2 (p3 + 1) r36 hr36) (pmX1_spots G ad (b) u) (pnX1_spots G ad (b) u r36.2) (ci := 6) (T := TX5) (N := 3) rfl rfl rfl ⟨Nat.le_of_ble_eq_true rfl, Nat.le_of_ble_eq_true rfl⟩ (Nat.le_of_ble_eq_true rfl) rfl hl.1 hP hD hS dX1_lookAtSpot_36 (fun H locs hP hD hS => ?_)
      replace hP : va_P D vwCl (wX1 G ad b (u.1, u.2.1, r36.2, u.2.2.2.1, u.2.2.2.2.1, u.2.2.2.2.2.1, u.2.2.2.2.2.2.1, u.2.2.2.2.2.2.2.1, u.2.2.2.2.2.2.2.2.1, u.2.2.2.2.2.2.2.2.2.1, u.2.2.2.2.2.2.2.2.2.2.1, u.2.2.2.2.2.2.2.2.2.2.2.1, u.2.2.2.2.2.2.2.2.2.2.2.2.1, u.2.2.2.2.2.2.2.2.2.2.2.2.2.1, u.2.2.2.2.2.2.2.2.2.2.2.2.2.2.1, u.2.2.2.2.2.2.2.2.2.2.2.2.2.2.2.1, u.2.2.2.2.2.2.2.2.2.2.2.2.2.2.2.2)) H := hP
      replace hD : va_D A (wX1 G ad b (u.1, u.2.1, r36.2, u.2.2.2.1, u.2.2.2.2.1, u.2.2.2.2.2.1, u.2.2.2.2.2.2.1, u.2.2.2.2.2.2.2.1, u.2.2.2.2.2.2.2.2.1, u.2.2.2.2.2.2.2.2.2.1, u.2.2.2.2.2.2.2.2.2.2.1, u.2.2.2.2.2.2.2.2.2.2.2.1, u.2.2.2.2.2.2.2.2.2.2.2.2.1, u.2.2.2.2.2.2.2.2.2.2.2.2.2.1, u.2.2.2.2.2.2.2.2.2.2.2.2.2.2.1, u.2.2.2.2.2.2.2.2.2.2.2.2.2.2.2.1, u.2.2.2.2.2.2.2.2.2.2.2.2.2.2.2.2)) := hD
      refine lv_pop hx hb dX1_lookAtSpot_39 rfl ?_
      refine lv_goto (tgt := 109) hx hb dX1_lookAtSpot_40 (by decide) ?_
      obtain rfl := zo hf
      exact hret _ _ _ _ hP hD hS dX1_lookAtSpot_109
  · replace hf := zi_n hf c2
    refine lv_aload_n hx hb dX1_lookAtSpot_5 rfl (lv_at hl 0 rfl) ?_
    refine va_get (D := D) (ci := 2) (v := .ref (ad (b + 3))) (C := RX1) (T := TX1) (N := 17) hx hb hW inlX1 hown hK hP 0 rfl rfl 2 (by decide) (hW _ wd_39) (fun _ h9 => h9) rfl dX1_lookAtSpot_6 ?_
    refine lv_iload_n hx hb dX1_lookAtSpot_9 rfl (lv_at hl 2 rfl) ?_
    refine lv_iload_n hx hb dX1_lookAtSpot_10 rfl (lv_at hl 3 rfl) ?_
    replace hf := zb_s hf
    obtain ⟨r11, hr11, hf⟩ := hf
    refine z_Vi (rest := []) C0 kX1_108 (c_X5_append l D G ad (b + 3) u.2.2.1 p2 p3 r11 hr11) (pmX1_spots G ad (b) u) (pnX1_spots G ad (b) u r11.2) (ci := 6) (T := TX5) (N := 3) rfl rfl rfl ⟨Nat.le_of_ble_eq_true rfl, Nat.le_of_ble_eq_true rfl⟩ (Nat.le_of_ble_eq_true rfl) rfl hl.1 hP hD hS dX1_lookAtSpot_11 (fun H locs hP hD hS => ?_)
    replace hP : va_P D vwCl (wX1 G ad b (u.1, u.2.1, r11.2, u.2.2.2.1, u.2.2.2.2.1, u.2.2.2.2.2.1, u.2.2.2.2.2.2.1, u.2.2.2.2.2.2.2.1, u.2.2.2.2.2.2.2.2.1, u.2.2.2.2.2.2.2.2.2.1, u.2.2.2.2.2.2.2.2.2.2.1, u.2.2.2.2.2.2.2.2.2.2.2.1, u.2.2.2.2.2.2.2.2.2.2.2.2.1, u.2.2.2.2.2.2.2.2.2.2.2.2.2.1, u.2.2.2.2.2.2.2.2.2.2.2.2.2.2.1, u.2.2.2.2.2.2.2.2.2.2.2.2.2.2.2.1, u.2.2.2.2.2.2.2.2.2.2.2.2.2.2.2.2)) H := hP
    replace hD : va_D A (wX1 G ad b (u.1, u.2.1, r11.2, u.2.2.2.1, u.2.2.2.2.1, u.2.2.2.2.2.1, u.2.2.2.2.2.2.1, u.2.2.2.2.2.2.2.1, u.2.2.2.2.2.2.2.2.1, u.2.2.2.2.2.2.2.2.2.1, u.2.2.2.2.2.2.2.2.2.2.1, u.2.2.2.2.2.2.2.2.2.2.2.1, u.2.2.2.2.2.2.2.2.2.2.2.2.1, u.2.2.2.2.2.2.2.2.2.2.2.2.2.1, u.2.2.2.2.2.2.2.2.2.2.2.2.2.2.1, u.2.2.2.2.2.2.2.2.2.2.2.2.2.2.2.1, u.2.2.2.2.2.2.2.2.2.2.2.2.2.2.2.2)) := hD
    refine lv_pop hx hb dX1_lookAtSpot_14 rfl ?_
    refine lv_goto (tgt := 109) hx hb dX1_lookAtSpot_15 (by decide) ?_
    obtain rfl := zo hf
    exact hret _ _ _ _ hP hD hS dX1_lookAtSpot_109
theorem kX1_154 : zLkV RX1 154 yX1_clearCheck cX1_clearCheck 1 none 0 := ⟨⟨wd_417, wd_418, wd_419, wd_14, wd_420⟩, by decide +kernel⟩
theorem kX1_186 : zLkV RX1 186 yX1_lookAtSpot cX1_lookAtSpot 4 none 3 := ⟨⟨wd_421, wd_422, wd_423, wd_14, wd_424⟩, by decide +kernel⟩
noncomputable def q_X1_endCheck_L73 (u : tX1) (p1 : Int32) (r9 : Int32 × Int32 × Int32) (s21 : Nat → Int32) (k29 : Int32) (k39 : Int32) (v73 : Int32 × tX5 × tX3 × Int32 × Int32) : Option ((Int32 × tX5 × tX3 × Int32 × Int32) ⊕ (tX5 × tX3 × Int32 × Int32)) :=
  (if u.2.2.1.2.2 ≤ v73.1 then some (Sum.inr (v73.2.1, v73.2.2.1, v73.2.2.2.1, v73.2.2.2.2)) else (if 20 ≤ v73.1 then some (Sum.inr (v73.2.1, v73.2.2.1, v73.2.2.2.1, v73.2.2.2.2)) else zg 20 v73.2.1.1 v73.1 fun a94 => zg 20 v73.2.1.2.1 v73.1 fun a103 => zb (q_X1_lookAtSpot (u.1, s21, v73.2.1, u.2.2.2.1, v73.2.2.1, u.2.2.2.2.2.1, v73.2.2.2.1, u.2.2.2.2.2.2.2.1, u.2.2.2.2.2.2.2.2.1, r9.1, r9.2.1, r9.2.2, k29, k39, u.2.2.2.2.2.2.2.2.2.2.2.2.2.2.1, v73.2.2.2.2, u.2.2.2.2.2.2.2.2.2.2.2.2.2.2.2.2) p1 a94 a103) fun r104 => some (Sum.inl ((v73.1 + 1), r104.1, r104.2.1, r104.2.2.1, r104.2.2.2))))
noncomputable def q_X1_endCheck (u : tX1) (p1 : Int32) : Option (tX1) :=
  zb (q_X6_isSpan p1) fun r1 => (if r1 = 0 then some (u) else zb (q_X1_clearCheck u) fun r9 => zs 8 u.2.1 p1 u.2.2.2.2.2.2.2.1 fun s21 => zn ((p1 + 1) - (p1 + 1) / 8 * 8) fun k29 => zn (u.2.2.2.2.2.2.2.2.2.2.2.2.2.1 + 1) fun k39 => zb (q_X3_append u.2.2.2.2.1 u.2.2.2.2.2.2.2.1 3 p1) fun r52 => zb (zl 1000000 (q_X1_endCheck_L73 u p1 r9 s21 k29 k39) (0, (u.2.2.1.1, u.2.2.1.2.1, 0), r52, u.2.2.2.2.2.2.1, u.2.2.2.2.2.2.2.2.2.2.2.2.2.2.2.1)) (fun b73 => some ((u.1, s21, b73.1, u.2.2.2.1, b73.2.1, u.2.2.2.2.2.1, b73.2.2.1, u.2.2.2.2.2.2.2.1, u.2.2.2.2.2.2.2.2.1, r9.1, r9.2.1, r9.2.2, k29, k39, u.2.2.2.2.2.2.2.2.2.2.2.2.2.2.1, b73.2.2.2, u.2.2.2.2.2.2.2.2.2.2.2.2.2.2.2.2))))
set_option maxRecDepth 100000 in
set_option maxHeartbeats 4000000 in
theorem c_X1_endCheck (l : Launch) (D : va_G) (G : zG) (ad : Nat → Nat) (b : Nat) (u : tX1) (p1 : Int32) (res : tX1) (hf : q_X1_endCheck u p1 = some res) : zMv l yX1_endCheck cX1_endCheck 4 none 2 46 D G (wX1 G ad b u) (wX1 G ad b res) [.ref (ad b), .int p1] := by
  refine zs_v (plainFor_of_name (by decide)) (Nat.le_of_ble_eq_true rfl) ?_
  intro p e s m args below meth c A Q H ls C0 hret hP hD hS hl
  obtain ⟨hx, hb, hml, hown, hW, hK, hlocks, hF, hr, hA⟩ := id C0
  replace hl : lv_has ls 4 [(0, .ref (ad b)), (1, .int p1)] := hl
  unfold q_X1_endCheck at hf
  refine lv_iload_n hx hb dX1_endCheck_0 rfl (lv_at hl 1 rfl) ?_
  replace hf := zb_s hf
  obtain ⟨r1, hr1, hf⟩ := hf
  refine z_Ni (rest := []) C0 kX1_105 (c_X6_isSpan l D G p1 r1 hr1) (List.Perm.refl _) (List.Perm.refl _) rfl ⟨Nat.le_of_ble_eq_true rfl, Nat.le_of_ble_eq_true rfl⟩ (Nat.le_of_ble_eq_true rfl) rfl hl.1 hP hD hS dX1_endCheck_1 (fun H locs hP hD hS => ?_)
  refine lv_if_ne (tgt := 8) hx hb dX1_endCheck_4 (by decide) (fun c4 => ?_) (fun c4 => ?_)
  · replace hf := zi_n hf c4
    refine lv_aload_n hx hb dX1_endCheck_8 rfl (lv_at hl 0 rfl) ?_
    replace hf := zb_s hf
    obtain ⟨r9, hr9, hf⟩ := hf
    refine z_Vv (rest := []) C0 kX1_154 (c_X1_clearCheck l D G ad (b) u r9 hr9) z_pall z_pall.symm (ci := 2) (T := TX1) (N := 17) rfl rfl rfl ⟨Nat.le_of_ble_eq_true rfl, Nat.le_of_ble_eq_true rfl⟩ (Nat.le_of_ble_eq_true rfl) rfl hl.1 hP hD hS dX1_endCheck_9 (fun H locs hP hD hS => ?_)
    replace hP : va_P D vwCl (wX1 G ad b (u.1, u.2.1, u.2.2.1, u.2.2.2.1, u.2.2.2.2.1, u.2.2.2.2.2.1, u.2.2.2.2.2.2.1, u.2.2.2.2.2.2.2.1, u.2.2.2.2.2.2.2.2.1, r9.1, r9.2.1, r9.2.2, u.2.2.2.2.2.2.2.2.2.2.2.2.1, u.2.2.2.2.2.2.2.2.2.2.2.2.2.1, u.2.2.2.2.2.2.2.2.2.2.2.2.2.2.1, u.2.2.2.2.2.2.2.2.2.2.2.2.2.2.2.1, u.2.2.2.2.2.2.2.2.2.2.2.2.2.2.2.2)) H := hP
    replace hD : va_D A (wX1 G ad b (u.1, u.2.1, u.2.2.1, u.2.2.2.1, u.2.2.2.2.1, u.2.2.2.2.2.1, u.2.2.2.2.2.2.1, u.2.2.2.2.2.2.2.1, u.2.2.2.2.2.2.2.2.1, r9.1, r9.2.1, r9.2.2, u.2.2.2.2.2.2.2.2.2.2.2.2.1, u.2.2.2.2.2.2.2.2.2.2.2.2.2.1, u.2.2.2.2.2.2.2.2.2.2.2.2.2.2.1, u.2.2.2.2.2.2.2.2.2.2.2.2.2.2.2.1, u.2.2.2.2.2.2.2.2.2.2.2.2.2.2.2.2)) := hD
    refine lv_aload_n hx hb dX1_endCheck_12 rfl (lv_at hl 0 rfl) ?_
    refine va_get (D := D) (ci := 2) (v := .ref (ad (b + 2))) (C := RX1) (T := TX1) (N := 17) hx hb hW inlX1 hown hK hP 0 rfl rfl 1 (by decide) (hW _ wd_35) (fun _ h9 => h9) rfl dX1_endCheck_13 ?_
    refine lv_iload_n hx hb dX1_endCheck_16 rfl (lv_at hl 1 rfl) ?_
    refine lv_aload_n hx hb dX1_endCheck_17 rfl (lv_at hl 0 rfl) ?_
    refine va_get (D := D) (ci := 2) (v := .int u.2.2.2.2.2.2.2.1) (C := RX1) (T := TX1) (N := 17) hx hb hW inlX1 hown hK hP 0 rfl rfl 7 (by decide) (hW _ wd_50) (fun _ h9 => h9) rfl dX1_endCheck_18 ?_
    replace hf := zs_s hf
    obtain ⟨hi21, s21, es21, hf⟩ := hf
    refine z_iast (ws' := wX1 G ad b (u.1, s21, u.2.2.1, u.2.2.2.1, u.2.2.2.2.1, u.2.2.2.2.2.1, u.2.2.2.2.2.2.1, u.2.2.2.2.2.2.2.1, u.2.2.2.2.2.2.2.2.1, r9.1, r9.2.1, r9.2.2, u.2.2.2.2.2.2.2.2.2.2.2.2.1, u.2.2.2.2.2.2.2.2.2.2.2.2.2.1, u.2.2.2.2.2.2.2.2.2.2.2.2.2.2.1, u.2.2.2.2.2.2.2.2.2.2.2.2.2.2.2.1, u.2.2.2.2.2.2.2.2.2.2.2.2.2.2.2.2)) hx hb hK hP hD hS 2 0 rfl rfl hi21 es21 rfl dX1_endCheck_21 (fun H locs hP hD hS => ?_)
    refine lv_aload_n hx hb dX1_endCheck_22 rfl (lv_at hl 0 rfl) ?_
    refine lv_iload_n hx hb dX1_endCheck_23 rfl (lv_at hl 1 rfl) ?_
    refine lv_iconst (v := 1) hx hb dX1_endCheck_24 (by decide) ?_
    refine lv_iadd hx hb dX1_endCheck_25 ?_
    refine lv_bipush (v := 8) hx hb dX1_endCheck_26 (by decide) ?_
    refine lv_irem hx hb dX1_endCheck_28 (by decide) ?_
    replace hf := zn_s hf
    obtain ⟨k29, ek29, hf⟩ := hf
    refine z_top ek29 ?_
    refine z_put (ws' := wX1 G ad b (u.1, s21, u.2.2.1, u.2.2.2.1, u.2.2.2.2.1, u.2.2.2.2.2.1, u.2.2.2.2.2.2.1, u.2.2.2.2.2.2.2.1, u.2.2.2.2.2.2.2.2.1, r9.1, r9.2.1, r9.2.2, k29, u.2.2.2.2.2.2.2.2.2.2.2.2.2.1, u.2.2.2.2.2.2.2.2.2.2.2.2.2.2.1, u.2.2.2.2.2.2.2.2.2.2.2.2.2.2.2.1, u.2.2.2.2.2.2.2.2.2.2.2.2.2.2.2.2)) (ci := 2) (C := RX1) (T := TX1) (N := 17) hx hb hW inlX1 tyX1 tyX1_ok nmX1 hown hK hP hD hS 0 rfl rfl 12 (by decide) (hW _ wd_55) rfl rfl (Nat.le_of_ble_eq_true rfl) rfl dX1_endCheck_29 (fun H locs hP hD hS => ?_)
    refine lv_aload_n hx hb dX1_endCheck_32 rfl (lv_at hl 0 rfl) ?_
    refine lv_dup hx hb dX1_endCheck_33 rfl ?_
    refine va_get (D := D) (ci := 2) (v := .int u.2.2.2.2.2.2.2.2.2.2.2.2.2.1) (C := RX1) (T := TX1) (N := 17) hx hb hW inlX1 hown hK hP 0 rfl rfl 13 (by decide) (hW _ wd_56) (fun _ h9 => h9) rfl dX1_endCheck_34 ?_
    refine lv_iconst (v := 1) hx hb dX1_endCheck_37 (by decide) ?_
    refine lv_iadd hx hb dX1_endCheck_38 ?_
    replace hf := zn_s hf
    obtain ⟨k39, ek39, hf⟩ := hf
    refine z_top ek39 ?_
    refine z_put (ws' := wX1 G ad b (u.1, s21, u.2.2.1, u.2.2.2.1, u.2.2.2.2.1, u.2.2.2.2.2.1, u.2.2.2.2.2.2.1, u.2.2.2.2.2.2.2.1, u.2.2.2.2.2.2.2.2.1, r9.1, r9.2.1, r9.2.2, k29, k39, u.2.2.2.2.2.2.2.2.2.2.2.2.2.2.1, u.2.2.2.2.2.2.2.2.2.2.2.2.2.2.2.1, u.2.2.2.2.2.2.2.2.2.2.2.2.2.2.2.2)) (ci := 2) (C := RX1) (T := TX1) (N := 17) hx hb hW inlX1 tyX1 tyX1_ok nmX1 hown hK hP hD hS 0 rfl rfl 13 (by decide) (hW _ wd_56) rfl rfl (Nat.le_of_ble_eq_true rfl) rfl dX1_endCheck_39 (fun H locs hP hD hS => ?_)
    refine lv_aload_n hx hb dX1_endCheck_42 rfl (lv_at hl 0 rfl) ?_
    refine va_get (D := D) (ci := 2) (v := .ref (ad (b + 8))) (C := RX1) (T := TX1) (N := 17) hx hb hW inlX1 hown hK hP 0 rfl rfl 4 (by decide) (hW _ wd_47) (fun _ h9 => h9) rfl dX1_endCheck_43 ?_
    refine lv_aload_n hx hb dX1_endCheck_46 rfl (lv_at hl 0 rfl) ?_
    refine va_get (D := D) (ci := 2) (v := .int u.2.2.2.2.2.2.2.1) (C := RX1) (T := TX1) (N := 17) hx hb hW inlX1 hown hK hP 0 rfl rfl 7 (by decide) (hW _ wd_50) (fun _ h9 => h9) rfl dX1_endCheck_47 ?_
    refine lv_iconst (v := 3) hx hb dX1_endCheck_50 (by decide) ?_
    refine lv_iload_n hx hb dX1_endCheck_51 rfl (lv_at hl 1 rfl) ?_
    replace hf := zb_s hf
    obtain ⟨r52, hr52, hf⟩ := hf
    refine z_Vv (rest := []) C0 kX1_134 (c_X3_append l D G ad (b + 8) u.2.2.2.2.1 u.2.2.2.2.2.2.2.1 3 p1 r52 hr52) (pmX1_log G ad (b) (u.1, s21, u.2.2.1, u.2.2.2.1, u.2.2.2.2.1, u.2.2.2.2.2.1, u.2.2.2.2.2.2.1, u.2.2.2.2.2.2.2.1, u.2.2.2.2.2.2.2.2.1, r9.1, r9.2.1, r9.2.2, k29, k39, u.2.2.2.2.2.2.2.2.2.2.2.2.2.2.1, u.2.2.2.2.2.2.2.2.2.2.2.2.2.2.2.1, u.2.2.2.2.2.2.2.2.2.2.2.2.2.2.2.2)) (pnX1_log G ad (b) (u.1, s21, u.2.2.1, u.2.2.2.1, u.2.2.2.2.1, u.2.2.2.2.2.1, u.2.2.2.2.2.2.1, u.2.2.2.2.2.2.2.1, u.2.2.2.2.2.2.2.2.1, r9.1, r9.2.1, r9.2.2, k29, k39, u.2.2.2.2.2.2.2.2.2.2.2.2.2.2.1, u.2.2.2.2.2.2.2.2.2.2.2.2.2.2.2.1, u.2.2.2.2.2.2.2.2.2.2.2.2.2.2.2.2) r52) (ci := 4) (T := TX3) (N := 5) rfl rfl rfl ⟨Nat.le_of_ble_eq_true rfl, Nat.le_of_ble_eq_true rfl⟩ (Nat.le_of_ble_eq_true rfl) rfl hl.1 hP hD hS dX1_endCheck_52 (fun H locs hP hD hS => ?_)
    replace hP : va_P D vwCl (wX1 G ad b (u.1, s21, u.2.2.1, u.2.2.2.1, r52, u.2.2.2.2.2.1, u.2.2.2.2.2.2.1, u.2.2.2.2.2.2.2.1, u.2.2.2.2.2.2.2.2.1, r9.1, r9.2.1, r9.2.2, k29, k39, u.2.2.2.2.2.2.2.2.2.2.2.2.2.2.1, u.2.2.2.2.2.2.2.2.2.2.2.2.2.2.2.1, u.2.2.2.2.2.2.2.2.2.2.2.2.2.2.2.2)) H := hP
    replace hD : va_D A (wX1 G ad b (u.1, s21, u.2.2.1, u.2.2.2.1, r52, u.2.2.2.2.2.1, u.2.2.2.2.2.2.1, u.2.2.2.2.2.2.2.1, u.2.2.2.2.2.2.2.2.1, r9.1, r9.2.1, r9.2.2, k29, k39, u.2.2.2.2.2.2.2.2.2.2.2.2.2.2.1, u.2.2.2.2.2.2.2.2.2.2.2.2.2.2.2.1, u.2.2.2.2.2.2.2.2.2.2.2.2.2.2.2.2)) := hD
    refine lv_aload_n hx hb dX1_endCheck_55 rfl (lv_at hl 0 rfl) ?_
    refine va_get (D := D) (ci := 2) (v := .ref (ad (b + 3))) (C := RX1) (T := TX1) (N := 17) hx hb hW inlX1 hown hK hP 0 rfl rfl 2 (by decide) (hW _ wd_39) (fun _ h9 => h9) rfl dX1_endCheck_56 ?_
    refine va_getN (host := "QuietChecks") (D := D) (ci := 6) (v := .int u.2.2.1.2.2) (C := RX5) (T := TX5) (N := 3) hx hb hW inlX5 hown hK hP 3 rfl rfl 2 (by decide) (va_Nw.use rfl (hF.1 _ (by decide +kernel : Cond.fieldLinkNest "QuietChecks$Disk" 181 "QuietChecks$Spots" "size" "I" "QuietChecks" ∈ zNest))) (fun _ h9 => h9) rfl dX1_endCheck_59 ?_
    refine lv_istore_n (lv' := [(2, .int u.2.2.1.2.2), (0, .ref (ad b)), (1, .int p1)]) hx hb dX1_endCheck_62 rfl hl (by decide) rfl (fun ls hl => ?_)
    refine lv_aload_n hx hb dX1_endCheck_63 rfl (lv_at hl 1 rfl) ?_
    refine va_get (D := D) (ci := 2) (v := .ref (ad (b + 3))) (C := RX1) (T := TX1) (N := 17) hx hb hW inlX1 hown hK hP 0 rfl rfl 2 (by decide) (hW _ wd_39) (fun _ h9 => h9) rfl dX1_endCheck_64 ?_
    refine lv_iconst (v := 0) hx hb dX1_endCheck_67 (by decide) ?_
    refine z_putN (ws' := wX1 G ad b (u.1, s21, (u.2.2.1.1, u.2.2.1.2.1, 0), u.2.2.2.1, r52, u.2.2.2.2.2.1, u.2.2.2.2.2.2.1, u.2.2.2.2.2.2.2.1, u.2.2.2.2.2.2.2.2.1, r9.1, r9.2.1, r9.2.2, k29, k39, u.2.2.2.2.2.2.2.2.2.2.2.2.2.2.1, u.2.2.2.2.2.2.2.2.2.2.2.2.2.2.2.1, u.2.2.2.2.2.2.2.2.2.2.2.2.2.2.2.2)) (ci := 6) (C := RX5) (T := TX5) (N := 3) hx hb hW inlX5 tyX5 tyX5_ok nmX5 hown hK hP hD hS 3 rfl rfl 2 (by decide) (va_Nw.use rfl (hF.1 _ (by decide +kernel : Cond.fieldLinkNest "QuietChecks$Disk" 181 "QuietChecks$Spots" "size" "I" "QuietChecks" ∈ zNest))) rfl rfl (Nat.le_of_ble_eq_true rfl) rfl dX1_endCheck_68 (fun H locs hP hD hS => ?_)
    refine lv_iconst (v := 0) hx hb dX1_endCheck_71 (by decide) ?_
    refine lv_istore_n (lv' := [(3, .int 0), (2, .int u.2.2.1.2.2), (0, .ref (ad b)), (1, .int p1)]) hx hb dX1_endCheck_72 rfl hl (by decide) rfl (fun ls hl => ?_)
    replace hf := zb_s hf
    obtain ⟨b73, hz73, hk73⟩ := hf
    have L73 : ∀ (n73 : Nat) (v73 : Int32 × tX5 × tX3 × Int32 × Int32) (hz73 : zl n73 (q_X1_endCheck_L73 u p1 r9 s21 k29 k39) v73 = some b73) (H : Heap) (locs : List Loc) (hP : va_P D vwCl (wX1 G ad b (u.1, s21, v73.2.1, u.2.2.2.1, v73.2.2.1, u.2.2.2.2.2.1, v73.2.2.2.1, u.2.2.2.2.2.2.2.1, u.2.2.2.2.2.2.2.2.1, r9.1, r9.2.1, r9.2.2, k29, k39, u.2.2.2.2.2.2.2.2.2.2.2.2.2.2.1, v73.2.2.2.2, u.2.2.2.2.2.2.2.2.2.2.2.2.2.2.2.2)) H) (hD : va_D A (wX1 G ad b (u.1, s21, v73.2.1, u.2.2.2.1, v73.2.2.1, u.2.2.2.2.2.1, v73.2.2.2.1, u.2.2.2.2.2.2.2.1, u.2.2.2.2.2.2.2.2.1, r9.1, r9.2.1, r9.2.2, k29, k39, u.2.2.2.2.2.2.2.2.2.2.2.2.2.2.1, v73.2.2.2.2, u.2.2.2.2.2.2.2.2.2.2.2.2.2.2.2.2))) (hS : va_S A s.heap H locs) (ls : Array Slot) (hl : lv_has ls 4 [(0, .ref (ad b)), (1, .int p1), (2, .int u.2.2.1.2.2), (3, .int v73.1)]), W p l e (zRm 2 46) s m args below meth c H locs 0 0 Q (F0 m 73 ls []) := by
      intro n73
      induction n73 with
      | zero => intro v73 hz73; exact (zl_0 hz73).elim
      | succ n73 ih73 =>
        intro v73 hz73 H locs hP hD hS ls hl
        obtain ⟨o73, hf, hz73⟩ := zl_s hz73
        unfold q_X1_endCheck_L73 at hf
        refine lv_iload_n hx hb dX1_endCheck_73 rfl (lv_at hl 3 rfl) ?_
        refine lv_iload_n hx hb dX1_endCheck_74 rfl (lv_at hl 2 rfl) ?_
        refine lv_icmp_ge (tgt := 113) hx hb dX1_endCheck_75 (by decide) (fun c75 => ?_) (fun c75 => ?_)
        · replace hf := zi_p hf c75
          have hb73 := zk_r hf hz73
          subst hb73
          replace hf := hk73
          obtain rfl := zo hf
          exact hret _ _ _ _ hP hD hS dX1_endCheck_113
        · replace hf := zi_n hf c75
          refine lv_iload_n hx hb dX1_endCheck_78 rfl (lv_at hl 3 rfl) ?_
          refine lv_bipush (v := 20) hx hb dX1_endCheck_79 (by decide) ?_
          refine lv_icmp_ge (tgt := 113) hx hb dX1_endCheck_81 (by decide) (fun c81 => ?_) (fun c81 => ?_)
          · replace hf := zi_p hf c81
            have hb73 := zk_r hf hz73
            subst hb73
            replace hf := hk73
            obtain rfl := zo hf
            exact hret _ _ _ _ hP hD hS dX1_endCheck_113
          · replace hf := zi_n hf c81
            refine lv_aload_n hx hb dX1_endCheck_84 rfl (lv_at hl 0 rfl) ?_
            refine lv_iload_n hx hb dX1_endCheck_85 rfl (lv_at hl 1 rfl) ?_
            refine lv_aload_n hx hb dX1_endCheck_86 rfl (lv_at hl 0 rfl) ?_
            refine va_get (D := D) (ci := 2) (v := .ref (ad (b + 3))) (C := RX1) (T := TX1) (N := 17) hx hb hW inlX1 hown hK hP 0 rfl rfl 2 (by decide) (hW _ wd_39) (fun _ h9 => h9) rfl dX1_endCheck_87 ?_
            refine va_getN (host := "QuietChecks") (D := D) (ci := 6) (v := .ref (ad (b + 4))) (C := RX5) (T := TX5) (N := 3) hx hb hW inlX5 hown hK hP 3 rfl rfl 0 (by decide) (va_Nw.use rfl (hF.1 _ (by decide +kernel : Cond.fieldLinkNest "QuietChecks$Disk" 182 "QuietChecks$Spots" "spans" "[I" "QuietChecks" ∈ zNest))) (fun _ h9 => h9) rfl dX1_endCheck_90 ?_
            refine lv_iload_n hx hb dX1_endCheck_93 rfl (lv_at hl 3 rfl) ?_
            replace hf := zg_s hf
            obtain ⟨hi94, a94, ea94, hf⟩ := hf
            refine z_iald hx hb hK hP 4 0 rfl rfl hi94 ea94 dX1_endCheck_94 ?_
            refine lv_aload_n hx hb dX1_endCheck_95 rfl (lv_at hl 0 rfl) ?_
            refine va_get (D := D) (ci := 2) (v := .ref (ad (b + 3))) (C := RX1) (T := TX1) (N := 17) hx hb hW inlX1 hown hK hP 0 rfl rfl 2 (by decide) (hW _ wd_39) (fun _ h9 => h9) rfl dX1_endCheck_96 ?_
            refine va_getN (host := "QuietChecks") (D := D) (ci := 6) (v := .ref (ad (b + 5))) (C := RX5) (T := TX5) (N := 3) hx hb hW inlX5 hown hK hP 3 rfl rfl 1 (by decide) (va_Nw.use rfl (hF.1 _ (by decide +kernel : Cond.fieldLinkNest "QuietChecks$Disk" 183 "QuietChecks$Spots" "tries" "[I" "QuietChecks" ∈ zNest))) (fun _ h9 => h9) rfl dX1_endCheck_99 ?_
            refine lv_iload_n hx hb dX1_endCheck_102 rfl (lv_at hl 3 rfl) ?_
            replace hf := zg_s hf
            obtain ⟨hi103, a103, ea103, hf⟩ := hf
            refine z_iald hx hb hK hP 5 0 rfl rfl hi103 ea103 dX1_endCheck_103 ?_
            replace hf := zb_s hf
            obtain ⟨r104, hr104, hf⟩ := hf
            refine z_Vv (rest := []) C0 kX1_186 (c_X1_lookAtSpot l D G ad (b) (u.1, s21, v73.2.1, u.2.2.2.1, v73.2.2.1, u.2.2.2.2.2.1, v73.2.2.2.1, u.2.2.2.2.2.2.2.1, u.2.2.2.2.2.2.2.2.1, r9.1, r9.2.1, r9.2.2, k29, k39, u.2.2.2.2.2.2.2.2.2.2.2.2.2.2.1, v73.2.2.2.2, u.2.2.2.2.2.2.2.2.2.2.2.2.2.2.2.2) p1 a94 a103 r104 hr104) z_pall z_pall.symm (ci := 2) (T := TX1) (N := 17) rfl rfl rfl ⟨Nat.le_of_ble_eq_true rfl, Nat.le_of_ble_eq_true rfl⟩ (Nat.le_of_ble_eq_true rfl) rfl hl.1 hP hD hS dX1_endCheck_104 (fun H locs hP hD hS => ?_)
            replace hP : va_P D vwCl (wX1 G ad b (u.1, s21, r104.1, u.2.2.2.1, r104.2.1, u.2.2.2.2.2.1, r104.2.2.1, u.2.2.2.2.2.2.2.1, u.2.2.2.2.2.2.2.2.1, r9.1, r9.2.1, r9.2.2, k29, k39, u.2.2.2.2.2.2.2.2.2.2.2.2.2.2.1, r104.2.2.2, u.2.2.2.2.2.2.2.2.2.2.2.2.2.2.2.2)) H := hP
            replace hD : va_D A (wX1 G ad b (u.1, s21, r104.1, u.2.2.2.1, r104.2.1, u.2.2.2.2.2.1, r104.2.2.1, u.2.2.2.2.2.2.2.1, u.2.2.2.2.2.2.2.2.1, r9.1, r9.2.1, r9.2.2, k29, k39, u.2.2.2.2.2.2.2.2.2.2.2.2.2.2.1, r104.2.2.2, u.2.2.2.2.2.2.2.2.2.2.2.2.2.2.2.2)) := hD
            refine lv_iinc (v := (v73.1 + 1)) (lv' := [(3, .int (v73.1 + 1)), (0, .ref (ad b)), (1, .int p1), (2, .int u.2.2.1.2.2)]) hx hb dX1_endCheck_107 hl (k := 3) rfl rfl (by decide) rfl (fun ls hl => ?_)
            refine lv_goto (tgt := 73) hx hb dX1_endCheck_110 (by decide) ?_
            exact ih73 _ (zk_l hf hz73) _ _ hP hD hS _ (lv_sub hl [1, 2, 3, 0] rfl)
    exact L73 _ _ hz73 _ _ hP hD hS _ (lv_sub hl [2, 3, 1, 0] rfl)
  · replace hf := zi_p hf c4
    obtain rfl := zo hf
    exact hret _ _ _ _ hP hD hS dX1_endCheck_7
theorem kX1_151 : zLkV RX1 151 yX1_endCheck cX1_endCheck 4 none 1 := ⟨⟨wd_413, wd_414, wd_415, wd_14, wd_416⟩, by decide +kernel⟩
theorem kX1_144 : zLkV RX1 144 yX1_chooseSpan cX1_chooseSpan 6 (some .int) 0 := ⟨⟨wd_382, wd_383, wd_384, wd_14, wd_385⟩, by decide +kernel⟩
theorem kX1_147 : zLkV RX1 147 yX1_beginCheck cX1_beginCheck 2 none 1 := ⟨⟨wd_405, wd_406, wd_407, wd_14, wd_408⟩, by decide +kernel⟩
noncomputable def q_X1_passQuietTick_J53  (w53_0 : tX1) : Option (Int32 × tX1) :=
  (if w53_0.2.2.2.2.2.2.2.2.2.1 = (-6) then some ((-6), w53_0) else zn (w53_0.2.2.2.2.2.2.2.2.2.2.1 + 1) fun k72 => (if w53_0.2.2.2.2.2.2.2.2.2.2.2.1 ≤ k72 then zb (q_X1_endCheck (w53_0.1, w53_0.2.1, w53_0.2.2.1, w53_0.2.2.2.1, w53_0.2.2.2.2.1, w53_0.2.2.2.2.2.1, w53_0.2.2.2.2.2.2.1, w53_0.2.2.2.2.2.2.2.1, w53_0.2.2.2.2.2.2.2.2.1, w53_0.2.2.2.2.2.2.2.2.2.1, k72, w53_0.2.2.2.2.2.2.2.2.2.2.2.1, w53_0.2.2.2.2.2.2.2.2.2.2.2.2.1, w53_0.2.2.2.2.2.2.2.2.2.2.2.2.2.1, w53_0.2.2.2.2.2.2.2.2.2.2.2.2.2.2.1, w53_0.2.2.2.2.2.2.2.2.2.2.2.2.2.2.2.1, w53_0.2.2.2.2.2.2.2.2.2.2.2.2.2.2.2.2) w53_0.2.2.2.2.2.2.2.2.2.1) fun r96 => some (w53_0.2.2.2.2.2.2.2.2.2.1, r96) else some ((-6), (w53_0.1, w53_0.2.1, w53_0.2.2.1, w53_0.2.2.2.1, w53_0.2.2.2.2.1, w53_0.2.2.2.2.2.1, w53_0.2.2.2.2.2.2.1, w53_0.2.2.2.2.2.2.2.1, w53_0.2.2.2.2.2.2.2.2.1, w53_0.2.2.2.2.2.2.2.2.2.1, k72, w53_0.2.2.2.2.2.2.2.2.2.2.2.1, w53_0.2.2.2.2.2.2.2.2.2.2.2.2.1, w53_0.2.2.2.2.2.2.2.2.2.2.2.2.2.1, w53_0.2.2.2.2.2.2.2.2.2.2.2.2.2.2.1, w53_0.2.2.2.2.2.2.2.2.2.2.2.2.2.2.2.1, w53_0.2.2.2.2.2.2.2.2.2.2.2.2.2.2.2.2))))
noncomputable def q_X1_passQuietTick (u : tX1) : Option (Int32 × tX1) :=
  zn (u.2.2.2.2.2.2.2.1 + 1) fun k7 => (if (u.1 0) ≤ u.2.2.2.2.2.2.2.2.1 then (if u.2.2.2.2.2.2.2.2.2.1 = (-6) then zb (q_X1_chooseSpan (u.1, u.2.1, u.2.2.1, u.2.2.2.1, u.2.2.2.2.1, u.2.2.2.2.2.1, u.2.2.2.2.2.2.1, k7, u.2.2.2.2.2.2.2.2.1, u.2.2.2.2.2.2.2.2.2.1, u.2.2.2.2.2.2.2.2.2.2.1, u.2.2.2.2.2.2.2.2.2.2.2.1, u.2.2.2.2.2.2.2.2.2.2.2.2.1, u.2.2.2.2.2.2.2.2.2.2.2.2.2.1, u.2.2.2.2.2.2.2.2.2.2.2.2.2.2.1, u.2.2.2.2.2.2.2.2.2.2.2.2.2.2.2.1, u.2.2.2.2.2.2.2.2.2.2.2.2.2.2.2.2)) fun r47 => zb (q_X1_beginCheck (u.1, u.2.1, u.2.2.1, u.2.2.2.1, u.2.2.2.2.1, u.2.2.2.2.2.1, u.2.2.2.2.2.2.1, k7, u.2.2.2.2.2.2.2.2.1, u.2.2.2.2.2.2.2.2.2.1, u.2.2.2.2.2.2.2.2.2.2.1, u.2.2.2.2.2.2.2.2.2.2.2.1, u.2.2.2.2.2.2.2.2.2.2.2.2.1, u.2.2.2.2.2.2.2.2.2.2.2.2.2.1, u.2.2.2.2.2.2.2.2.2.2.2.2.2.2.1, u.2.2.2.2.2.2.2.2.2.2.2.2.2.2.2.1, u.2.2.2.2.2.2.2.2.2.2.2.2.2.2.2.2) r47) fun r50 => q_X1_passQuietTick_J53 r50 else q_X1_passQuietTick_J53 (u.1, u.2.1, u.2.2.1, u.2.2.2.1, u.2.2.2.2.1, u.2.2.2.2.2.1, u.2.2.2.2.2.2.1, k7, u.2.2.2.2.2.2.2.2.1, u.2.2.2.2.2.2.2.2.2.1, u.2.2.2.2.2.2.2.2.2.2.1, u.2.2.2.2.2.2.2.2.2.2.2.1, u.2.2.2.2.2.2.2.2.2.2.2.2.1, u.2.2.2.2.2.2.2.2.2.2.2.2.2.1, u.2.2.2.2.2.2.2.2.2.2.2.2.2.2.1, u.2.2.2.2.2.2.2.2.2.2.2.2.2.2.2.1, u.2.2.2.2.2.2.2.2.2.2.2.2.2.2.2.2)) else zn (u.2.2.2.2.2.2.2.2.1 + 1) fun k30 => some ((-6), (u.1, u.2.1, u.2.2.1, u.2.2.2.1, u.2.2.2.2.1, u.2.2.2.2.2.1, u.2.2.2.2.2.2.1, k7, k30, u.2.2.2.2.2.2.2.2.2.1, u.2.2.2.2.2.2.2.2.2.2.1, u.2.2.2.2.2.2.2.2.2.2.2.1, u.2.2.2.2.2.2.2.2.2.2.2.2.1, u.2.2.2.2.2.2.2.2.2.2.2.2.2.1, u.2.2.2.2.2.2.2.2.2.2.2.2.2.2.1, u.2.2.2.2.2.2.2.2.2.2.2.2.2.2.2.1, u.2.2.2.2.2.2.2.2.2.2.2.2.2.2.2.2)))
set_option maxRecDepth 100000 in
set_option maxHeartbeats 4000000 in
theorem c_X1_passQuietTick (l : Launch) (D : va_G) (G : zG) (ad : Nat → Nat) (b : Nat) (u : tX1) (res : Int32 × tX1) (hf : q_X1_passQuietTick u = some res) : zMi l yX1_passQuietTick cX1_passQuietTick 2 (some .int) 4 102 D G (wX1 G ad b u) (wX1 G ad b res.2) [.ref (ad b)] res.1 := by
  refine zs_i (plainFor_of_name (by decide)) (Nat.le_of_ble_eq_true rfl) ?_
  intro p e s m args below meth c A Q H ls C0 hret hP hD hS hl
  obtain ⟨hx, hb, hml, hown, hW, hK, hlocks, hF, hr, hA⟩ := id C0
  replace hl : lv_has ls 2 [(0, .ref (ad b))] := hl
  unfold q_X1_passQuietTick at hf
  refine lv_aload_n hx hb dX1_passQuietTick_0 rfl (lv_at hl 0 rfl) ?_
  refine lv_dup hx hb dX1_passQuietTick_1 rfl ?_
  refine va_get (D := D) (ci := 2) (v := .int u.2.2.2.2.2.2.2.1) (C := RX1) (T := TX1) (N := 17) hx hb hW inlX1 hown hK hP 0 rfl rfl 7 (by decide) (hW _ wd_50) (fun _ h9 => h9) rfl dX1_passQuietTick_2 ?_
  refine lv_iconst (v := 1) hx hb dX1_passQuietTick_5 (by decide) ?_
  refine lv_iadd hx hb dX1_passQuietTick_6 ?_
  replace hf := zn_s hf
  obtain ⟨k7, ek7, hf⟩ := hf
  refine z_top ek7 ?_
  refine z_put (ws' := wX1 G ad b (u.1, u.2.1, u.2.2.1, u.2.2.2.1, u.2.2.2.2.1, u.2.2.2.2.2.1, u.2.2.2.2.2.2.1, k7, u.2.2.2.2.2.2.2.2.1, u.2.2.2.2.2.2.2.2.2.1, u.2.2.2.2.2.2.2.2.2.2.1, u.2.2.2.2.2.2.2.2.2.2.2.1, u.2.2.2.2.2.2.2.2.2.2.2.2.1, u.2.2.2.2.2.2.2.2.2.2.2.2.2.1, u.2.2.2.2.2.2.2.2.2.2.2.2.2.2.1, u.2.2.2.2.2.2.2.2.2.2.2.2.2.2.2.1, u.2.2.2.2.2.2.2.2.2.2.2.2.2.2.2.2)) (ci := 2) (C := RX1) (T := TX1) (N := 17) hx hb hW inlX1 tyX1 tyX1_ok nmX1 hown hK hP hD hS 0 rfl rfl 7 (by decide) (hW _ wd_50) rfl rfl (Nat.le_of_ble_eq_true rfl) rfl dX1_passQuietTick_7 (fun H locs hP hD hS => ?_)
  refine lv_aload_n hx hb dX1_passQuietTick_10 rfl (lv_at hl 0 rfl) ?_
  refine va_get (D := D) (ci := 2) (v := .int u.2.2.2.2.2.2.2.2.1) (C := RX1) (T := TX1) (N := 17) hx hb hW inlX1 hown hK hP 0 rfl rfl 8 (by decide) (hW _ wd_51) (fun _ h9 => h9) rfl dX1_passQuietTick_11 ?_
  refine lv_aload_n hx hb dX1_passQuietTick_14 rfl (lv_at hl 0 rfl) ?_
  refine va_get (D := D) (ci := 2) (v := .ref (ad (b + 1))) (C := RX1) (T := TX1) (N := 17) hx hb hW inlX1 hown hK hP 0 rfl rfl 0 (by decide) (hW _ wd_34) (fun _ h9 => h9) rfl dX1_passQuietTick_15 ?_
  refine lv_iconst (v := 0) hx hb dX1_passQuietTick_18 (by decide) ?_
  refine z_iald (v := (u.1 0)) hx hb hK hP 1 0 rfl rfl (z_in rfl) rfl dX1_passQuietTick_19 ?_
  refine lv_icmp_ge (tgt := 36) hx hb dX1_passQuietTick_20 (by decide) (fun c20 => ?_) (fun c20 => ?_)
  · replace hf := zi_p hf c20
    refine lv_aload_n hx hb dX1_passQuietTick_36 rfl (lv_at hl 0 rfl) ?_
    refine va_get (D := D) (ci := 2) (v := .int u.2.2.2.2.2.2.2.2.2.1) (C := RX1) (T := TX1) (N := 17) hx hb hW inlX1 hown hK hP 0 rfl rfl 9 (by decide) (hW _ wd_52) (fun _ h9 => h9) rfl dX1_passQuietTick_37 ?_
    refine lv_bipush (v := (-6)) hx hb dX1_passQuietTick_40 (by decide) ?_
    have J53 : ∀ (w53_0 : tX1) (hf : q_X1_passQuietTick_J53 w53_0 = some res) (H : Heap) (locs : List Loc) (hP : va_P D vwCl (wX1 G ad b w53_0) H) (hD : va_D A (wX1 G ad b w53_0)) (hS : va_S A s.heap H locs) (ls : Array Slot) (hl : lv_has ls 2 [(0, .ref (ad b))]), W p l e (zRm 4 102) s m args below meth c H locs 0 0 Q (F0 m 53 ls []) := by
      intro w53_0 hf H locs hP hD hS ls hl
      unfold q_X1_passQuietTick_J53 at hf
      refine lv_aload_n hx hb dX1_passQuietTick_53 rfl (lv_at hl 0 rfl) ?_
      refine va_get (D := D) (ci := 2) (v := .int w53_0.2.2.2.2.2.2.2.2.2.1) (C := RX1) (T := TX1) (N := 17) hx hb hW inlX1 hown hK hP 0 rfl rfl 9 (by decide) (hW _ wd_52) (fun _ h9 => h9) rfl dX1_passQuietTick_54 ?_
      refine lv_bipush (v := (-6)) hx hb dX1_passQuietTick_57 (by decide) ?_
      refine lv_icmp_ne (tgt := 65) hx hb dX1_passQuietTick_59 (by decide) (fun c59 => ?_) (fun c59 => ?_)
      · replace hf := zi_n hf c59
        refine lv_aload_n hx hb dX1_passQuietTick_65 rfl (lv_at hl 0 rfl) ?_
        refine lv_dup hx hb dX1_passQuietTick_66 rfl ?_
        refine va_get (D := D) (ci := 2) (v := .int w53_0.2.2.2.2.2.2.2.2.2.2.1) (C := RX1) (T := TX1) (N := 17) hx hb hW inlX1 hown hK hP 0 rfl rfl 10 (by decide) (hW _ wd_53) (fun _ h9 => h9) rfl dX1_passQuietTick_67 ?_
        refine lv_iconst (v := 1) hx hb dX1_passQuietTick_70 (by decide) ?_
        refine lv_iadd hx hb dX1_passQuietTick_71 ?_
        replace hf := zn_s hf
        obtain ⟨k72, ek72, hf⟩ := hf
        refine z_top ek72 ?_
        refine z_put (ws' := wX1 G ad b (w53_0.1, w53_0.2.1, w53_0.2.2.1, w53_0.2.2.2.1, w53_0.2.2.2.2.1, w53_0.2.2.2.2.2.1, w53_0.2.2.2.2.2.2.1, w53_0.2.2.2.2.2.2.2.1, w53_0.2.2.2.2.2.2.2.2.1, w53_0.2.2.2.2.2.2.2.2.2.1, k72, w53_0.2.2.2.2.2.2.2.2.2.2.2.1, w53_0.2.2.2.2.2.2.2.2.2.2.2.2.1, w53_0.2.2.2.2.2.2.2.2.2.2.2.2.2.1, w53_0.2.2.2.2.2.2.2.2.2.2.2.2.2.2.1, w53_0.2.2.2.2.2.2.2.2.2.2.2.2.2.2.2.1, w53_0.2.2.2.2.2.2.2.2.2.2.2.2.2.2.2.2)) (ci := 2) (C := RX1) (T := TX1) (N := 17) hx hb hW inlX1 tyX1 tyX1_ok nmX1 hown hK hP hD hS 0 rfl rfl 10 (by decide) (hW _ wd_53) rfl rfl (Nat.le_of_ble_eq_true rfl) rfl dX1_passQuietTick_72 (fun H locs hP hD hS => ?_)
        refine lv_aload_n hx hb dX1_passQuietTick_75 rfl (lv_at hl 0 rfl) ?_
        refine va_get (D := D) (ci := 2) (v := .int k72) (C := RX1) (T := TX1) (N := 17) hx hb hW inlX1 hown hK hP 0 rfl rfl 10 (by decide) (hW _ wd_53) (fun _ h9 => h9) rfl dX1_passQuietTick_76 ?_
        refine lv_aload_n hx hb dX1_passQuietTick_79 rfl (lv_at hl 0 rfl) ?_
        refine va_get (D := D) (ci := 2) (v := .int w53_0.2.2.2.2.2.2.2.2.2.2.2.1) (C := RX1) (T := TX1) (N := 17) hx hb hW inlX1 hown hK hP 0 rfl rfl 11 (by decide) (hW _ wd_54) (fun _ h9 => h9) rfl dX1_passQuietTick_80 ?_
        refine lv_icmp_ge (tgt := 89) hx hb dX1_passQuietTick_83 (by decide) (fun c83 => ?_) (fun c83 => ?_)
        · replace hf := zi_p hf c83
          refine lv_aload_n hx hb dX1_passQuietTick_89 rfl (lv_at hl 0 rfl) ?_
          refine va_get (D := D) (ci := 2) (v := .int w53_0.2.2.2.2.2.2.2.2.2.1) (C := RX1) (T := TX1) (N := 17) hx hb hW inlX1 hown hK hP 0 rfl rfl 9 (by decide) (hW _ wd_52) (fun _ h9 => h9) rfl dX1_passQuietTick_90 ?_
          refine lv_istore_n (lv' := [(1, .int w53_0.2.2.2.2.2.2.2.2.2.1), (0, .ref (ad b))]) hx hb dX1_passQuietTick_93 rfl hl (by decide) rfl (fun ls hl => ?_)
          refine lv_aload_n hx hb dX1_passQuietTick_94 rfl (lv_at hl 1 rfl) ?_
          refine lv_iload_n hx hb dX1_passQuietTick_95 rfl (lv_at hl 0 rfl) ?_
          replace hf := zb_s hf
          obtain ⟨r96, hr96, hf⟩ := hf
          refine z_Vv (rest := []) C0 kX1_151 (c_X1_endCheck l D G ad (b) (w53_0.1, w53_0.2.1, w53_0.2.2.1, w53_0.2.2.2.1, w53_0.2.2.2.2.1, w53_0.2.2.2.2.2.1, w53_0.2.2.2.2.2.2.1, w53_0.2.2.2.2.2.2.2.1, w53_0.2.2.2.2.2.2.2.2.1, w53_0.2.2.2.2.2.2.2.2.2.1, k72, w53_0.2.2.2.2.2.2.2.2.2.2.2.1, w53_0.2.2.2.2.2.2.2.2.2.2.2.2.1, w53_0.2.2.2.2.2.2.2.2.2.2.2.2.2.1, w53_0.2.2.2.2.2.2.2.2.2.2.2.2.2.2.1, w53_0.2.2.2.2.2.2.2.2.2.2.2.2.2.2.2.1, w53_0.2.2.2.2.2.2.2.2.2.2.2.2.2.2.2.2) w53_0.2.2.2.2.2.2.2.2.2.1 r96 hr96) z_pall z_pall.symm (ci := 2) (T := TX1) (N := 17) rfl rfl rfl ⟨Nat.le_of_ble_eq_true rfl, Nat.le_of_ble_eq_true rfl⟩ (Nat.le_of_ble_eq_true rfl) rfl hl.1 hP hD hS dX1_passQuietTick_96 (fun H locs hP hD hS => ?_)
          replace hP : va_P D vwCl (wX1 G ad b r96) H := hP
          replace hD : va_D A (wX1 G ad b r96) := hD
          refine lv_iload_n hx hb dX1_passQuietTick_99 rfl (lv_at hl 0 rfl) ?_
          obtain rfl := zo hf
          exact hret _ _ _ _ _ hP hD hS rfl dX1_passQuietTick_100
        · replace hf := zi_n hf c83
          refine lv_bipush (v := (-6)) hx hb dX1_passQuietTick_86 (by decide) ?_
          obtain rfl := zo hf
          exact hret _ _ _ _ _ hP hD hS rfl dX1_passQuietTick_88
      · replace hf := zi_p hf c59
        refine lv_bipush (v := (-6)) hx hb dX1_passQuietTick_62 (by decide) ?_
        obtain rfl := zo hf
        exact hret _ _ _ _ _ hP hD hS rfl dX1_passQuietTick_64
    refine lv_icmp_ne (tgt := 53) hx hb dX1_passQuietTick_42 (by decide) (fun c42 => ?_) (fun c42 => ?_)
    · replace hf := zi_n hf c42
      exact J53 (u.1, u.2.1, u.2.2.1, u.2.2.2.1, u.2.2.2.2.1, u.2.2.2.2.2.1, u.2.2.2.2.2.2.1, k7, u.2.2.2.2.2.2.2.2.1, u.2.2.2.2.2.2.2.2.2.1, u.2.2.2.2.2.2.2.2.2.2.1, u.2.2.2.2.2.2.2.2.2.2.2.1, u.2.2.2.2.2.2.2.2.2.2.2.2.1, u.2.2.2.2.2.2.2.2.2.2.2.2.2.1, u.2.2.2.2.2.2.2.2.2.2.2.2.2.2.1, u.2.2.2.2.2.2.2.2.2.2.2.2.2.2.2.1, u.2.2.2.2.2.2.2.2.2.2.2.2.2.2.2.2) hf _ _ hP hD hS _ (lv_sub hl [0] rfl)
    · replace hf := zi_p hf c42
      refine lv_aload_n hx hb dX1_passQuietTick_45 rfl (lv_at hl 0 rfl) ?_
      refine lv_aload_n hx hb dX1_passQuietTick_46 rfl (lv_at hl 0 rfl) ?_
      replace hf := zb_s hf
      obtain ⟨r47, hr47, hf⟩ := hf
      refine z_Vi (rest := [.ref (ad b)]) C0 kX1_144 (c_X1_chooseSpan l D G ad (b) (u.1, u.2.1, u.2.2.1, u.2.2.2.1, u.2.2.2.2.1, u.2.2.2.2.2.1, u.2.2.2.2.2.2.1, k7, u.2.2.2.2.2.2.2.2.1, u.2.2.2.2.2.2.2.2.2.1, u.2.2.2.2.2.2.2.2.2.2.1, u.2.2.2.2.2.2.2.2.2.2.2.1, u.2.2.2.2.2.2.2.2.2.2.2.2.1, u.2.2.2.2.2.2.2.2.2.2.2.2.2.1, u.2.2.2.2.2.2.2.2.2.2.2.2.2.2.1, u.2.2.2.2.2.2.2.2.2.2.2.2.2.2.2.1, u.2.2.2.2.2.2.2.2.2.2.2.2.2.2.2.2) r47 hr47) z_pall z_pall.symm (ci := 2) (T := TX1) (N := 17) rfl rfl rfl ⟨Nat.le_of_ble_eq_true rfl, Nat.le_of_ble_eq_true rfl⟩ (Nat.le_of_ble_eq_true rfl) rfl hl.1 hP hD hS dX1_passQuietTick_47 (fun H locs hP hD hS => ?_)
      replace hf := zb_s hf
      obtain ⟨r50, hr50, hf⟩ := hf
      refine z_Vv (rest := []) C0 kX1_147 (c_X1_beginCheck l D G ad (b) (u.1, u.2.1, u.2.2.1, u.2.2.2.1, u.2.2.2.2.1, u.2.2.2.2.2.1, u.2.2.2.2.2.2.1, k7, u.2.2.2.2.2.2.2.2.1, u.2.2.2.2.2.2.2.2.2.1, u.2.2.2.2.2.2.2.2.2.2.1, u.2.2.2.2.2.2.2.2.2.2.2.1, u.2.2.2.2.2.2.2.2.2.2.2.2.1, u.2.2.2.2.2.2.2.2.2.2.2.2.2.1, u.2.2.2.2.2.2.2.2.2.2.2.2.2.2.1, u.2.2.2.2.2.2.2.2.2.2.2.2.2.2.2.1, u.2.2.2.2.2.2.2.2.2.2.2.2.2.2.2.2) r47 r50 hr50) z_pall z_pall.symm (ci := 2) (T := TX1) (N := 17) rfl rfl rfl ⟨Nat.le_of_ble_eq_true rfl, Nat.le_of_ble_eq_true rfl⟩ (Nat.le_of_ble_eq_true rfl) rfl hl.1 hP hD hS dX1_passQuietTick_50 (fun H locs hP hD hS => ?_)
      replace hP : va_P D vwCl (wX1 G ad b r50) H := hP
      replace hD : va_D A (wX1 G ad b r50) := hD
      exact J53 r50 hf _ _ hP hD hS _ (lv_sub hl [0] rfl)
  · replace hf := zi_n hf c20
    refine lv_aload_n hx hb dX1_passQuietTick_23 rfl (lv_at hl 0 rfl) ?_
    refine lv_dup hx hb dX1_passQuietTick_24 rfl ?_
    refine va_get (D := D) (ci := 2) (v := .int u.2.2.2.2.2.2.2.2.1) (C := RX1) (T := TX1) (N := 17) hx hb hW inlX1 hown hK hP 0 rfl rfl 8 (by decide) (hW _ wd_51) (fun _ h9 => h9) rfl dX1_passQuietTick_25 ?_
    refine lv_iconst (v := 1) hx hb dX1_passQuietTick_28 (by decide) ?_
    refine lv_iadd hx hb dX1_passQuietTick_29 ?_
    replace hf := zn_s hf
    obtain ⟨k30, ek30, hf⟩ := hf
    refine z_top ek30 ?_
    refine z_put (ws' := wX1 G ad b (u.1, u.2.1, u.2.2.1, u.2.2.2.1, u.2.2.2.2.1, u.2.2.2.2.2.1, u.2.2.2.2.2.2.1, k7, k30, u.2.2.2.2.2.2.2.2.2.1, u.2.2.2.2.2.2.2.2.2.2.1, u.2.2.2.2.2.2.2.2.2.2.2.1, u.2.2.2.2.2.2.2.2.2.2.2.2.1, u.2.2.2.2.2.2.2.2.2.2.2.2.2.1, u.2.2.2.2.2.2.2.2.2.2.2.2.2.2.1, u.2.2.2.2.2.2.2.2.2.2.2.2.2.2.2.1, u.2.2.2.2.2.2.2.2.2.2.2.2.2.2.2.2)) (ci := 2) (C := RX1) (T := TX1) (N := 17) hx hb hW inlX1 tyX1 tyX1_ok nmX1 hown hK hP hD hS 0 rfl rfl 8 (by decide) (hW _ wd_51) rfl rfl (Nat.le_of_ble_eq_true rfl) rfl dX1_passQuietTick_30 (fun H locs hP hD hS => ?_)
    refine lv_bipush (v := (-6)) hx hb dX1_passQuietTick_33 (by decide) ?_
    obtain rfl := zo hf
    exact hret _ _ _ _ _ hP hD hS rfl dX1_passQuietTick_35
theorem kX1_140 : zLkV RX1 140 yX1_passQuietTick cX1_passQuietTick 2 (some .int) 0 := ⟨⟨wd_378, wd_379, wd_380, wd_14, wd_381⟩, by decide +kernel⟩
noncomputable def q_X1_passQuietTicks_L36 (p1 : Int32) (v36 : Int32 × tX1) : Option ((Int32 × tX1) ⊕ (tX1)) :=
  (if p1 ≤ v36.1 then some (Sum.inr (v36.2)) else zb (q_X1_passQuietTick v36.2) fun r42 => some (Sum.inl ((v36.1 + 1), r42.2)))
noncomputable def q_X1_passQuietTicks (u : tX1) (p1 : Int32) : Option (Int32 × tX1) :=
  (if p1 < 1 then some ((-2), u) else (if p1 ≤ 500 then (if (u.2.2.2.2.2.2.2.1 + p1) ≤ 99999 then zb (zl 1000000 (q_X1_passQuietTicks_L36 p1) (0, u)) (fun b36 => some ((b36.2.2.2.2.2.2.2.2.2.2.2.2.2.1 - u.2.2.2.2.2.2.2.2.2.2.2.2.2.1), b36)) else some ((-4), u)) else some ((-2), u)))
set_option maxRecDepth 100000 in
set_option maxHeartbeats 4000000 in
theorem c_X1_passQuietTicks (l : Launch) (D : va_G) (G : zG) (ad : Nat → Nat) (b : Nat) (u : tX1) (p1 : Int32) (res : Int32 × tX1) (hf : q_X1_passQuietTicks u p1 = some res) : zMi l yX1_passQuietTicks cX1_passQuietTicks 4 (some .int) 5 123 D G (wX1 G ad b u) (wX1 G ad b res.2) [.ref (ad b), .int p1] res.1 := by
  refine zs_i (plainFor_of_name (by decide)) (Nat.le_of_ble_eq_true rfl) ?_
  intro p e s m args below meth c A Q H ls C0 hret hP hD hS hl
  obtain ⟨hx, hb, hml, hown, hW, hK, hlocks, hF, hr, hA⟩ := id C0
  replace hl : lv_has ls 4 [(0, .ref (ad b)), (1, .int p1)] := hl
  unfold q_X1_passQuietTicks at hf
  refine lv_iload_n hx hb dX1_passQuietTicks_0 rfl (lv_at hl 1 rfl) ?_
  refine lv_iconst (v := 1) hx hb dX1_passQuietTicks_1 (by decide) ?_
  refine lv_icmp_lt (tgt := 12) hx hb dX1_passQuietTicks_2 (by decide) (fun c2 => ?_) (fun c2 => ?_)
  · replace hf := zi_p hf c2
    refine lv_bipush (v := (-2)) hx hb dX1_passQuietTicks_12 (by decide) ?_
    obtain rfl := zo hf
    exact hret _ _ _ _ _ hP hD hS rfl dX1_passQuietTicks_14
  · replace hf := zi_n hf c2
    refine lv_iload_n hx hb dX1_passQuietTicks_5 rfl (lv_at hl 1 rfl) ?_
    refine lv_sipush (v := 500) hx hb dX1_passQuietTicks_6 (by decide) ?_
    refine lv_icmp_le (tgt := 15) hx hb dX1_passQuietTicks_9 (by decide) (fun c9 => ?_) (fun c9 => ?_)
    · replace hf := zi_p hf c9
      refine lv_aload_n hx hb dX1_passQuietTicks_15 rfl (lv_at hl 0 rfl) ?_
      refine va_get (D := D) (ci := 2) (v := .int u.2.2.2.2.2.2.2.1) (C := RX1) (T := TX1) (N := 17) hx hb hW inlX1 hown hK hP 0 rfl rfl 7 (by decide) (hW _ wd_50) (fun _ h9 => h9) rfl dX1_passQuietTicks_16 ?_
      refine lv_iload_n hx hb dX1_passQuietTicks_19 rfl (lv_at hl 1 rfl) ?_
      refine lv_iadd hx hb dX1_passQuietTicks_20 ?_
      refine lv_ldc hx hb hown (hW _ wd_327) dX1_passQuietTicks_21 ?_
      refine lv_icmp_le (tgt := 29) hx hb dX1_passQuietTicks_23 (by decide) (fun c23 => ?_) (fun c23 => ?_)
      · replace hf := zi_p hf c23
        refine lv_aload_n hx hb dX1_passQuietTicks_29 rfl (lv_at hl 0 rfl) ?_
        refine va_get (D := D) (ci := 2) (v := .int u.2.2.2.2.2.2.2.2.2.2.2.2.2.1) (C := RX1) (T := TX1) (N := 17) hx hb hW inlX1 hown hK hP 0 rfl rfl 13 (by decide) (hW _ wd_56) (fun _ h9 => h9) rfl dX1_passQuietTicks_30 ?_
        refine lv_istore_n (lv' := [(2, .int u.2.2.2.2.2.2.2.2.2.2.2.2.2.1), (0, .ref (ad b)), (1, .int p1)]) hx hb dX1_passQuietTicks_33 rfl hl (by decide) rfl (fun ls hl => ?_)
        refine lv_iconst (v := 0) hx hb dX1_passQuietTicks_34 (by decide) ?_
        refine lv_istore_n (lv' := [(3, .int 0), (2, .int u.2.2.2.2.2.2.2.2.2.2.2.2.2.1), (0, .ref (ad b)), (1, .int p1)]) hx hb dX1_passQuietTicks_35 rfl hl (by decide) rfl (fun ls hl => ?_)
        replace hf := zb_s hf
        obtain ⟨b36, hz36, hk36⟩ := hf
        have L36 : ∀ (n36 : Nat) (v36 : Int32 × tX1) (hz36 : zl n36 (q_X1_passQuietTicks_L36 p1) v36 = some b36) (H : Heap) (locs : List Loc) (hP : va_P D vwCl (wX1 G ad b v36.2) H) (hD : va_D A (wX1 G ad b v36.2)) (hS : va_S A s.heap H locs) (ls : Array Slot) (hl : lv_has ls 4 [(0, .ref (ad b)), (1, .int p1), (2, .int u.2.2.2.2.2.2.2.2.2.2.2.2.2.1), (3, .int v36.1)]), W p l e (zRm 5 123) s m args below meth c H locs 0 0 Q (F0 m 36 ls []) := by
          intro n36
          induction n36 with
          | zero => intro v36 hz36; exact (zl_0 hz36).elim
          | succ n36 ih36 =>
            intro v36 hz36 H locs hP hD hS ls hl
            obtain ⟨o36, hf, hz36⟩ := zl_s hz36
            unfold q_X1_passQuietTicks_L36 at hf
            refine lv_iload_n hx hb dX1_passQuietTicks_36 rfl (lv_at hl 3 rfl) ?_
            refine lv_iload_n hx hb dX1_passQuietTicks_37 rfl (lv_at hl 1 rfl) ?_
            refine lv_icmp_ge (tgt := 52) hx hb dX1_passQuietTicks_38 (by decide) (fun c38 => ?_) (fun c38 => ?_)
            · replace hf := zi_p hf c38
              have hb36 := zk_r hf hz36
              subst hb36
              replace hf := hk36
              refine lv_aload_n hx hb dX1_passQuietTicks_52 rfl (lv_at hl 0 rfl) ?_
              refine va_get (D := D) (ci := 2) (v := .int v36.2.2.2.2.2.2.2.2.2.2.2.2.2.2.1) (C := RX1) (T := TX1) (N := 17) hx hb hW inlX1 hown hK hP 0 rfl rfl 13 (by decide) (hW _ wd_56) (fun _ h9 => h9) rfl dX1_passQuietTicks_53 ?_
              refine lv_iload_n hx hb dX1_passQuietTicks_56 rfl (lv_at hl 2 rfl) ?_
              refine lv_isub hx hb dX1_passQuietTicks_57 ?_
              obtain rfl := zo hf
              exact hret _ _ _ _ _ hP hD hS rfl dX1_passQuietTicks_58
            · replace hf := zi_n hf c38
              refine lv_aload_n hx hb dX1_passQuietTicks_41 rfl (lv_at hl 0 rfl) ?_
              replace hf := zb_s hf
              obtain ⟨r42, hr42, hf⟩ := hf
              refine z_Vi (rest := []) C0 kX1_140 (c_X1_passQuietTick l D G ad (b) v36.2 r42 hr42) z_pall z_pall.symm (ci := 2) (T := TX1) (N := 17) rfl rfl rfl ⟨Nat.le_of_ble_eq_true rfl, Nat.le_of_ble_eq_true rfl⟩ (Nat.le_of_ble_eq_true rfl) rfl hl.1 hP hD hS dX1_passQuietTicks_42 (fun H locs hP hD hS => ?_)
              replace hP : va_P D vwCl (wX1 G ad b r42.2) H := hP
              replace hD : va_D A (wX1 G ad b r42.2) := hD
              refine lv_pop hx hb dX1_passQuietTicks_45 rfl ?_
              refine lv_iinc (v := (v36.1 + 1)) (lv' := [(3, .int (v36.1 + 1)), (0, .ref (ad b)), (1, .int p1), (2, .int u.2.2.2.2.2.2.2.2.2.2.2.2.2.1)]) hx hb dX1_passQuietTicks_46 hl (k := 3) rfl rfl (by decide) rfl (fun ls hl => ?_)
              refine lv_goto (tgt := 36) hx hb dX1_passQuietTicks_49 (by decide) ?_
              exact ih36 _ (zk_l hf hz36) _ _ hP hD hS _ (lv_sub hl [1, 2, 3, 0] rfl)
        exact L36 _ _ hz36 _ _ hP hD hS _ (lv_sub hl [2, 3, 1, 0] rfl)
      · replace hf := zi_n hf c23
        refine lv_bipush (v := (-4)) hx hb dX1_passQuietTicks_26 (by decide) ?_
        obtain rfl := zo hf
        exact hret _ _ _ _ _ hP hD hS rfl dX1_passQuietTicks_28
    · replace hf := zi_n hf c9
      refine lv_bipush (v := (-2)) hx hb dX1_passQuietTicks_12 (by decide) ?_
      obtain rfl := zo hf
      exact hret _ _ _ _ _ hP hD hS rfl dX1_passQuietTicks_14
noncomputable def q_X1_dropCheck (u : tX1) : Option (Int32 × Int32 × Int32 × Int32) :=
  (if u.2.2.2.2.2.2.2.2.2.1 = (-6) then some ((-3), u.2.2.2.2.2.2.2.2.2.1, u.2.2.2.2.2.2.2.2.2.2.1, u.2.2.2.2.2.2.2.2.2.2.2.1) else zb (q_X1_clearCheck u) fun r18 => some (u.2.2.2.2.2.2.2.2.2.2.1, r18.1, r18.2.1, r18.2.2))
set_option maxRecDepth 100000 in
set_option maxHeartbeats 4000000 in
theorem c_X1_dropCheck (l : Launch) (D : va_G) (G : zG) (ad : Nat → Nat) (b : Nat) (u : tX1) (res : Int32 × Int32 × Int32 × Int32) (hf : q_X1_dropCheck u = some res) : zMi l yX1_dropCheck cX1_dropCheck 2 (some .int) 1 20 D G (wX1 G ad b u) (wX1 G ad b (u.1, u.2.1, u.2.2.1, u.2.2.2.1, u.2.2.2.2.1, u.2.2.2.2.2.1, u.2.2.2.2.2.2.1, u.2.2.2.2.2.2.2.1, u.2.2.2.2.2.2.2.2.1, res.2.1, res.2.2.1, res.2.2.2, u.2.2.2.2.2.2.2.2.2.2.2.2.1, u.2.2.2.2.2.2.2.2.2.2.2.2.2.1, u.2.2.2.2.2.2.2.2.2.2.2.2.2.2.1, u.2.2.2.2.2.2.2.2.2.2.2.2.2.2.2.1, u.2.2.2.2.2.2.2.2.2.2.2.2.2.2.2.2)) [.ref (ad b)] res.1 := by
  refine zs_i (plainFor_of_name (by decide)) (Nat.le_of_ble_eq_true rfl) ?_
  intro p e s m args below meth c A Q H ls C0 hret hP hD hS hl
  obtain ⟨hx, hb, hml, hown, hW, hK, hlocks, hF, hr, hA⟩ := id C0
  replace hl : lv_has ls 2 [(0, .ref (ad b))] := hl
  unfold q_X1_dropCheck at hf
  refine lv_aload_n hx hb dX1_dropCheck_0 rfl (lv_at hl 0 rfl) ?_
  refine va_get (D := D) (ci := 2) (v := .int u.2.2.2.2.2.2.2.2.2.1) (C := RX1) (T := TX1) (N := 17) hx hb hW inlX1 hown hK hP 0 rfl rfl 9 (by decide) (hW _ wd_52) (fun _ h9 => h9) rfl dX1_dropCheck_1 ?_
  refine lv_bipush (v := (-6)) hx hb dX1_dropCheck_4 (by decide) ?_
  refine lv_icmp_ne (tgt := 12) hx hb dX1_dropCheck_6 (by decide) (fun c6 => ?_) (fun c6 => ?_)
  · replace hf := zi_n hf c6
    refine lv_aload_n hx hb dX1_dropCheck_12 rfl (lv_at hl 0 rfl) ?_
    refine va_get (D := D) (ci := 2) (v := .int u.2.2.2.2.2.2.2.2.2.2.1) (C := RX1) (T := TX1) (N := 17) hx hb hW inlX1 hown hK hP 0 rfl rfl 10 (by decide) (hW _ wd_53) (fun _ h9 => h9) rfl dX1_dropCheck_13 ?_
    refine lv_istore_n (lv' := [(1, .int u.2.2.2.2.2.2.2.2.2.2.1), (0, .ref (ad b))]) hx hb dX1_dropCheck_16 rfl hl (by decide) rfl (fun ls hl => ?_)
    refine lv_aload_n hx hb dX1_dropCheck_17 rfl (lv_at hl 1 rfl) ?_
    replace hf := zb_s hf
    obtain ⟨r18, hr18, hf⟩ := hf
    refine z_Vv (rest := []) C0 kX1_154 (c_X1_clearCheck l D G ad (b) u r18 hr18) z_pall z_pall.symm (ci := 2) (T := TX1) (N := 17) rfl rfl rfl ⟨Nat.le_of_ble_eq_true rfl, Nat.le_of_ble_eq_true rfl⟩ (Nat.le_of_ble_eq_true rfl) rfl hl.1 hP hD hS dX1_dropCheck_18 (fun H locs hP hD hS => ?_)
    replace hP : va_P D vwCl (wX1 G ad b (u.1, u.2.1, u.2.2.1, u.2.2.2.1, u.2.2.2.2.1, u.2.2.2.2.2.1, u.2.2.2.2.2.2.1, u.2.2.2.2.2.2.2.1, u.2.2.2.2.2.2.2.2.1, r18.1, r18.2.1, r18.2.2, u.2.2.2.2.2.2.2.2.2.2.2.2.1, u.2.2.2.2.2.2.2.2.2.2.2.2.2.1, u.2.2.2.2.2.2.2.2.2.2.2.2.2.2.1, u.2.2.2.2.2.2.2.2.2.2.2.2.2.2.2.1, u.2.2.2.2.2.2.2.2.2.2.2.2.2.2.2.2)) H := hP
    replace hD : va_D A (wX1 G ad b (u.1, u.2.1, u.2.2.1, u.2.2.2.1, u.2.2.2.2.1, u.2.2.2.2.2.1, u.2.2.2.2.2.2.1, u.2.2.2.2.2.2.2.1, u.2.2.2.2.2.2.2.2.1, r18.1, r18.2.1, r18.2.2, u.2.2.2.2.2.2.2.2.2.2.2.2.1, u.2.2.2.2.2.2.2.2.2.2.2.2.2.1, u.2.2.2.2.2.2.2.2.2.2.2.2.2.2.1, u.2.2.2.2.2.2.2.2.2.2.2.2.2.2.2.1, u.2.2.2.2.2.2.2.2.2.2.2.2.2.2.2.2)) := hD
    refine lv_iload_n hx hb dX1_dropCheck_21 rfl (lv_at hl 0 rfl) ?_
    obtain rfl := zo hf
    exact hret _ _ _ _ _ hP hD hS rfl dX1_dropCheck_22
  · replace hf := zi_p hf c6
    refine lv_bipush (v := (-3)) hx hb dX1_dropCheck_9 (by decide) ?_
    obtain rfl := zo hf
    exact hret _ _ _ _ _ hP hD hS rfl dX1_dropCheck_11
theorem kX1_189 : zLkV RX1 189 yX1_isOverdue cX1_isOverdue 2 (some .boolean) 1 := ⟨⟨wd_519, wd_520, wd_521, wd_14, wd_522⟩, by decide +kernel⟩
noncomputable def q_X1_overdueSpans_L4 (u : tX1) (v4 : Int32 × Int32) : Option ((Int32 × Int32) ⊕ (Int32)) :=
  (if 8 ≤ v4.2 then some (Sum.inr (v4.1)) else zb (q_X1_isOverdue u v4.2) fun r12 => (if r12 = 0 then some (Sum.inl (v4.1, (v4.2 + 1))) else some (Sum.inl ((v4.1 + 1), (v4.2 + 1)))))
noncomputable def q_X1_overdueSpans (u : tX1) : Option (Int32) :=
  zb (zl 1000000 (q_X1_overdueSpans_L4 u) (0, 0)) (fun b4 => some (b4))
set_option maxRecDepth 100000 in
set_option maxHeartbeats 4000000 in
theorem c_X1_overdueSpans (l : Launch) (D : va_G) (G : zG) (ad : Nat → Nat) (b : Nat) (u : tX1) (res : Int32) (hf : q_X1_overdueSpans u = some res) : zMi l yX1_overdueSpans cX1_overdueSpans 3 (some .int) 3 62 D G (wX1 G ad b u) (wX1 G ad b u) [.ref (ad b)] res := by
  refine zs_i (plainFor_of_name (by decide)) (Nat.le_of_ble_eq_true rfl) ?_
  intro p e s m args below meth c A Q H ls C0 hret hP hD hS hl
  obtain ⟨hx, hb, hml, hown, hW, hK, hlocks, hF, hr, hA⟩ := id C0
  replace hl : lv_has ls 3 [(0, .ref (ad b))] := hl
  unfold q_X1_overdueSpans at hf
  refine lv_iconst (v := 0) hx hb dX1_overdueSpans_0 (by decide) ?_
  refine lv_istore_n (lv' := [(1, .int 0), (0, .ref (ad b))]) hx hb dX1_overdueSpans_1 rfl hl (by decide) rfl (fun ls hl => ?_)
  refine lv_iconst (v := 0) hx hb dX1_overdueSpans_2 (by decide) ?_
  refine lv_istore_n (lv' := [(2, .int 0), (1, .int 0), (0, .ref (ad b))]) hx hb dX1_overdueSpans_3 rfl hl (by decide) rfl (fun ls hl => ?_)
  replace hf := zb_s hf
  obtain ⟨b4, hz4, hk4⟩ := hf
  have L4 : ∀ (n4 : Nat) (v4 : Int32 × Int32) (hz4 : zl n4 (q_X1_overdueSpans_L4 u) v4 = some b4) (H : Heap) (locs : List Loc) (hP : va_P D vwCl (wX1 G ad b u) H) (hD : va_D A (wX1 G ad b u)) (hS : va_S A s.heap H locs) (ls : Array Slot) (hl : lv_has ls 3 [(0, .ref (ad b)), (1, .int v4.1), (2, .int v4.2)]), W p l e (zRm 3 62) s m args below meth c H locs 0 0 Q (F0 m 4 ls []) := by
    intro n4
    induction n4 with
    | zero => intro v4 hz4; exact (zl_0 hz4).elim
    | succ n4 ih4 =>
      intro v4 hz4 H locs hP hD hS ls hl
      obtain ⟨o4, hf, hz4⟩ := zl_s hz4
      unfold q_X1_overdueSpans_L4 at hf
      refine lv_iload_n hx hb dX1_overdueSpans_4 rfl (lv_at hl 2 rfl) ?_
      refine lv_bipush (v := 8) hx hb dX1_overdueSpans_5 (by decide) ?_
      refine lv_icmp_ge (tgt := 27) hx hb dX1_overdueSpans_7 (by decide) (fun c7 => ?_) (fun c7 => ?_)
      · replace hf := zi_p hf c7
        have hb4 := zk_r hf hz4
        subst hb4
        replace hf := hk4
        refine lv_iload_n hx hb dX1_overdueSpans_27 rfl (lv_at hl 1 rfl) ?_
        obtain rfl := zo hf
        exact hret _ _ _ _ _ hP hD hS rfl dX1_overdueSpans_28
      · replace hf := zi_n hf c7
        refine lv_aload_n hx hb dX1_overdueSpans_10 rfl (lv_at hl 0 rfl) ?_
        refine lv_iload_n hx hb dX1_overdueSpans_11 rfl (lv_at hl 2 rfl) ?_
        replace hf := zb_s hf
        obtain ⟨r12, hr12, hf⟩ := hf
        refine z_Vi (rest := []) C0 kX1_189 (c_X1_isOverdue l D G ad (b) u v4.2 r12 hr12) z_pall z_pall.symm (ci := 2) (T := TX1) (N := 17) rfl rfl rfl ⟨Nat.le_of_ble_eq_true rfl, Nat.le_of_ble_eq_true rfl⟩ (Nat.le_of_ble_eq_true rfl) rfl hl.1 hP hD hS dX1_overdueSpans_12 (fun H locs hP hD hS => ?_)
        refine lv_if_eq (tgt := 21) hx hb dX1_overdueSpans_15 (by decide) (fun c15 => ?_) (fun c15 => ?_)
        · replace hf := zi_p hf c15
          refine lv_iinc (v := (v4.2 + 1)) (lv' := [(2, .int (v4.2 + 1)), (0, .ref (ad b)), (1, .int v4.1)]) hx hb dX1_overdueSpans_21 hl (k := 2) rfl rfl (by decide) rfl (fun ls hl => ?_)
          refine lv_goto (tgt := 4) hx hb dX1_overdueSpans_24 (by decide) ?_
          exact ih4 _ (zk_l hf hz4) _ _ hP hD hS _ (lv_sub hl [1, 2, 0] rfl)
        · replace hf := zi_n hf c15
          refine lv_iinc (v := (v4.1 + 1)) (lv' := [(1, .int (v4.1 + 1)), (0, .ref (ad b)), (2, .int v4.2)]) hx hb dX1_overdueSpans_18 hl (k := 1) rfl rfl (by decide) rfl (fun ls hl => ?_)
          refine lv_iinc (v := (v4.2 + 1)) (lv' := [(2, .int (v4.2 + 1)), (1, .int (v4.1 + 1)), (0, .ref (ad b))]) hx hb dX1_overdueSpans_21 hl (k := 2) rfl rfl (by decide) rfl (fun ls hl => ?_)
          refine lv_goto (tgt := 4) hx hb dX1_overdueSpans_24 (by decide) ?_
          exact ih4 _ (zk_l hf hz4) _ _ hP hD hS _ (lv_sub hl [2, 1, 0] rfl)
  exact L4 _ _ hz4 _ _ hP hD hS _ (lv_sub hl [2, 1, 0] rfl)
noncomputable def q_X1_numberOfDisk (u : tX1) (p1 : Int32) : Option (Int32) :=
  (if p1 = 0 then some (u.2.2.2.2.2.2.2.1) else if p1 = 1 then some (u.2.2.2.2.2.2.2.2.1) else if p1 = 2 then some (u.2.2.1.2.2) else if p1 = 3 then some (u.2.2.2.2.2.2.1) else if p1 = 4 then some (u.2.2.2.2.2.1) else if p1 = 5 then some (u.2.2.2.2.2.2.2.2.2.1) else if p1 = 6 then some (u.2.2.2.2.2.2.2.2.2.2.1) else if p1 = 7 then some (u.2.2.2.2.2.2.2.2.2.2.2.1) else if p1 = 8 then some (u.2.2.2.1.2) else if p1 = 9 then some (u.2.2.2.2.2.2.2.2.2.2.2.2.2.1) else if p1 = 10 then some (u.2.2.2.2.2.2.2.2.2.2.2.2.2.2.1) else if p1 = 11 then some (u.2.2.2.2.2.2.2.2.2.2.2.2.2.2.2.1) else some (u.2.2.2.2.2.2.2.2.2.2.2.2.2.2.2.2))
set_option maxRecDepth 100000 in
set_option maxHeartbeats 4000000 in
theorem c_X1_numberOfDisk (l : Launch) (D : va_G) (G : zG) (ad : Nat → Nat) (b : Nat) (u : tX1) (p1 : Int32) (res : Int32) (hf : q_X1_numberOfDisk u p1 = some res) : zMi l yX1_numberOfDisk cX1_numberOfDisk 2 (some .int) 0 0 D G (wX1 G ad b u) (wX1 G ad b u) [.ref (ad b), .int p1] res := by
  refine zs_i (plainFor_of_name (by decide)) (Nat.le_of_ble_eq_true rfl) ?_
  intro p e s m args below meth c A Q H ls C0 hret hP hD hS hl
  obtain ⟨hx, hb, hml, hown, hW, hK, hlocks, hF, hr, hA⟩ := id C0
  replace hl : lv_has ls 2 [(0, .ref (ad b)), (1, .int p1)] := hl
  unfold q_X1_numberOfDisk at hf
  refine lv_iload_n hx hb dX1_numberOfDisk_0 rfl (lv_at hl 1 rfl) ?_
  refine z_by (c := p1 = 0) (fun c1_0 => ?_) (fun n1_0 => ?_)
  · replace hf := zi_p hf c1_0
    refine lv_tableIn (off := 63) (tgt := 64) hx hb dX1_numberOfDisk_1 (by rw [c1_0]; decide) (by rw [c1_0]; decide) (by rw [c1_0]; decide) (by decide) ?_
    refine lv_aload_n hx hb dX1_numberOfDisk_64 rfl (lv_at hl 0 rfl) ?_
    refine va_get (D := D) (ci := 2) (v := .int u.2.2.2.2.2.2.2.1) (C := RX1) (T := TX1) (N := 17) hx hb hW inlX1 hown hK hP 0 rfl rfl 7 (by decide) (hW _ wd_50) (fun _ h9 => h9) rfl dX1_numberOfDisk_65 ?_
    obtain rfl := zo hf
    exact hret _ _ _ _ _ hP hD hS rfl dX1_numberOfDisk_68
  · replace hf := zi_n hf n1_0
    refine z_by (c := p1 = 1) (fun c1_1 => ?_) (fun n1_1 => ?_)
    · replace hf := zi_p hf c1_1
      refine lv_tableIn (off := 68) (tgt := 69) hx hb dX1_numberOfDisk_1 (by rw [c1_1]; decide) (by rw [c1_1]; decide) (by rw [c1_1]; decide) (by decide) ?_
      refine lv_aload_n hx hb dX1_numberOfDisk_69 rfl (lv_at hl 0 rfl) ?_
      refine va_get (D := D) (ci := 2) (v := .int u.2.2.2.2.2.2.2.2.1) (C := RX1) (T := TX1) (N := 17) hx hb hW inlX1 hown hK hP 0 rfl rfl 8 (by decide) (hW _ wd_51) (fun _ h9 => h9) rfl dX1_numberOfDisk_70 ?_
      obtain rfl := zo hf
      exact hret _ _ _ _ _ hP hD hS rfl dX1_numberOfDisk_73
    · replace hf := zi_n hf n1_1
      refine z_by (c := p1 = 2) (fun c1_2 => ?_) (fun n1_2 => ?_)
      · replace hf := zi_p hf c1_2
        refine lv_tableIn (off := 73) (tgt := 74) hx hb dX1_numberOfDisk_1 (by rw [c1_2]; decide) (by rw [c1_2]; decide) (by rw [c1_2]; decide) (by decide) ?_
        refine lv_aload_n hx hb dX1_numberOfDisk_74 rfl (lv_at hl 0 rfl) ?_
        refine va_get (D := D) (ci := 2) (v := .ref (ad (b + 3))) (C := RX1) (T := TX1) (N := 17) hx hb hW inlX1 hown hK hP 0 rfl rfl 2 (by decide) (hW _ wd_39) (fun _ h9 => h9) rfl dX1_numberOfDisk_75 ?_
        refine va_getN (host := "QuietChecks") (D := D) (ci := 6) (v := .int u.2.2.1.2.2) (C := RX5) (T := TX5) (N := 3) hx hb hW inlX5 hown hK hP 3 rfl rfl 2 (by decide) (va_Nw.use rfl (hF.1 _ (by decide +kernel : Cond.fieldLinkNest "QuietChecks$Disk" 181 "QuietChecks$Spots" "size" "I" "QuietChecks" ∈ zNest))) (fun _ h9 => h9) rfl dX1_numberOfDisk_78 ?_
        obtain rfl := zo hf
        exact hret _ _ _ _ _ hP hD hS rfl dX1_numberOfDisk_81
      · replace hf := zi_n hf n1_2
        refine z_by (c := p1 = 3) (fun c1_3 => ?_) (fun n1_3 => ?_)
        · replace hf := zi_p hf c1_3
          refine lv_tableIn (off := 81) (tgt := 82) hx hb dX1_numberOfDisk_1 (by rw [c1_3]; decide) (by rw [c1_3]; decide) (by rw [c1_3]; decide) (by decide) ?_
          refine lv_aload_n hx hb dX1_numberOfDisk_82 rfl (lv_at hl 0 rfl) ?_
          refine va_get (D := D) (ci := 2) (v := .int u.2.2.2.2.2.2.1) (C := RX1) (T := TX1) (N := 17) hx hb hW inlX1 hown hK hP 0 rfl rfl 6 (by decide) (hW _ wd_49) (fun _ h9 => h9) rfl dX1_numberOfDisk_83 ?_
          obtain rfl := zo hf
          exact hret _ _ _ _ _ hP hD hS rfl dX1_numberOfDisk_86
        · replace hf := zi_n hf n1_3
          refine z_by (c := p1 = 4) (fun c1_4 => ?_) (fun n1_4 => ?_)
          · replace hf := zi_p hf c1_4
            refine lv_tableIn (off := 86) (tgt := 87) hx hb dX1_numberOfDisk_1 (by rw [c1_4]; decide) (by rw [c1_4]; decide) (by rw [c1_4]; decide) (by decide) ?_
            refine lv_aload_n hx hb dX1_numberOfDisk_87 rfl (lv_at hl 0 rfl) ?_
            refine va_get (D := D) (ci := 2) (v := .int u.2.2.2.2.2.1) (C := RX1) (T := TX1) (N := 17) hx hb hW inlX1 hown hK hP 0 rfl rfl 5 (by decide) (hW _ wd_48) (fun _ h9 => h9) rfl dX1_numberOfDisk_88 ?_
            obtain rfl := zo hf
            exact hret _ _ _ _ _ hP hD hS rfl dX1_numberOfDisk_91
          · replace hf := zi_n hf n1_4
            refine z_by (c := p1 = 5) (fun c1_5 => ?_) (fun n1_5 => ?_)
            · replace hf := zi_p hf c1_5
              refine lv_tableIn (off := 91) (tgt := 92) hx hb dX1_numberOfDisk_1 (by rw [c1_5]; decide) (by rw [c1_5]; decide) (by rw [c1_5]; decide) (by decide) ?_
              refine lv_aload_n hx hb dX1_numberOfDisk_92 rfl (lv_at hl 0 rfl) ?_
              refine va_get (D := D) (ci := 2) (v := .int u.2.2.2.2.2.2.2.2.2.1) (C := RX1) (T := TX1) (N := 17) hx hb hW inlX1 hown hK hP 0 rfl rfl 9 (by decide) (hW _ wd_52) (fun _ h9 => h9) rfl dX1_numberOfDisk_93 ?_
              obtain rfl := zo hf
              exact hret _ _ _ _ _ hP hD hS rfl dX1_numberOfDisk_96
            · replace hf := zi_n hf n1_5
              refine z_by (c := p1 = 6) (fun c1_6 => ?_) (fun n1_6 => ?_)
              · replace hf := zi_p hf c1_6
                refine lv_tableIn (off := 96) (tgt := 97) hx hb dX1_numberOfDisk_1 (by rw [c1_6]; decide) (by rw [c1_6]; decide) (by rw [c1_6]; decide) (by decide) ?_
                refine lv_aload_n hx hb dX1_numberOfDisk_97 rfl (lv_at hl 0 rfl) ?_
                refine va_get (D := D) (ci := 2) (v := .int u.2.2.2.2.2.2.2.2.2.2.1) (C := RX1) (T := TX1) (N := 17) hx hb hW inlX1 hown hK hP 0 rfl rfl 10 (by decide) (hW _ wd_53) (fun _ h9 => h9) rfl dX1_numberOfDisk_98 ?_
                obtain rfl := zo hf
                exact hret _ _ _ _ _ hP hD hS rfl dX1_numberOfDisk_101
              · replace hf := zi_n hf n1_6
                refine z_by (c := p1 = 7) (fun c1_7 => ?_) (fun n1_7 => ?_)
                · replace hf := zi_p hf c1_7
                  refine lv_tableIn (off := 101) (tgt := 102) hx hb dX1_numberOfDisk_1 (by rw [c1_7]; decide) (by rw [c1_7]; decide) (by rw [c1_7]; decide) (by decide) ?_
                  refine lv_aload_n hx hb dX1_numberOfDisk_102 rfl (lv_at hl 0 rfl) ?_
                  refine va_get (D := D) (ci := 2) (v := .int u.2.2.2.2.2.2.2.2.2.2.2.1) (C := RX1) (T := TX1) (N := 17) hx hb hW inlX1 hown hK hP 0 rfl rfl 11 (by decide) (hW _ wd_54) (fun _ h9 => h9) rfl dX1_numberOfDisk_103 ?_
                  obtain rfl := zo hf
                  exact hret _ _ _ _ _ hP hD hS rfl dX1_numberOfDisk_106
                · replace hf := zi_n hf n1_7
                  refine z_by (c := p1 = 8) (fun c1_8 => ?_) (fun n1_8 => ?_)
                  · replace hf := zi_p hf c1_8
                    refine lv_tableIn (off := 106) (tgt := 107) hx hb dX1_numberOfDisk_1 (by rw [c1_8]; decide) (by rw [c1_8]; decide) (by rw [c1_8]; decide) (by decide) ?_
                    refine lv_aload_n hx hb dX1_numberOfDisk_107 rfl (lv_at hl 0 rfl) ?_
                    refine va_get (D := D) (ci := 2) (v := .ref (ad (b + 6))) (C := RX1) (T := TX1) (N := 17) hx hb hW inlX1 hown hK hP 0 rfl rfl 3 (by decide) (hW _ wd_43) (fun _ h9 => h9) rfl dX1_numberOfDisk_108 ?_
                    refine va_getN (host := "QuietChecks") (D := D) (ci := 1) (v := .int u.2.2.2.1.2) (C := RX0) (T := TX0) (N := 2) hx hb hW inlX0 hown hK hP 6 rfl rfl 1 (by decide) (va_Nw.use rfl (hF.1 _ (by decide +kernel : Cond.fieldLinkNest "QuietChecks$Disk" 121 "QuietChecks$Asked" "size" "I" "QuietChecks" ∈ zNest))) (fun _ h9 => h9) rfl dX1_numberOfDisk_111 ?_
                    obtain rfl := zo hf
                    exact hret _ _ _ _ _ hP hD hS rfl dX1_numberOfDisk_114
                  · replace hf := zi_n hf n1_8
                    refine z_by (c := p1 = 9) (fun c1_9 => ?_) (fun n1_9 => ?_)
                    · replace hf := zi_p hf c1_9
                      refine lv_tableIn (off := 114) (tgt := 115) hx hb dX1_numberOfDisk_1 (by rw [c1_9]; decide) (by rw [c1_9]; decide) (by rw [c1_9]; decide) (by decide) ?_
                      refine lv_aload_n hx hb dX1_numberOfDisk_115 rfl (lv_at hl 0 rfl) ?_
                      refine va_get (D := D) (ci := 2) (v := .int u.2.2.2.2.2.2.2.2.2.2.2.2.2.1) (C := RX1) (T := TX1) (N := 17) hx hb hW inlX1 hown hK hP 0 rfl rfl 13 (by decide) (hW _ wd_56) (fun _ h9 => h9) rfl dX1_numberOfDisk_116 ?_
                      obtain rfl := zo hf
                      exact hret _ _ _ _ _ hP hD hS rfl dX1_numberOfDisk_119
                    · replace hf := zi_n hf n1_9
                      refine z_by (c := p1 = 10) (fun c1_10 => ?_) (fun n1_10 => ?_)
                      · replace hf := zi_p hf c1_10
                        refine lv_tableIn (off := 119) (tgt := 120) hx hb dX1_numberOfDisk_1 (by rw [c1_10]; decide) (by rw [c1_10]; decide) (by rw [c1_10]; decide) (by decide) ?_
                        refine lv_aload_n hx hb dX1_numberOfDisk_120 rfl (lv_at hl 0 rfl) ?_
                        refine va_get (D := D) (ci := 2) (v := .int u.2.2.2.2.2.2.2.2.2.2.2.2.2.2.1) (C := RX1) (T := TX1) (N := 17) hx hb hW inlX1 hown hK hP 0 rfl rfl 14 (by decide) (hW _ wd_57) (fun _ h9 => h9) rfl dX1_numberOfDisk_121 ?_
                        obtain rfl := zo hf
                        exact hret _ _ _ _ _ hP hD hS rfl dX1_numberOfDisk_124
                      · replace hf := zi_n hf n1_10
                        refine z_by (c := p1 = 11) (fun c1_11 => ?_) (fun n1_11 => ?_)
                        · replace hf := zi_p hf c1_11
                          refine lv_tableIn (off := 124) (tgt := 125) hx hb dX1_numberOfDisk_1 (by rw [c1_11]; decide) (by rw [c1_11]; decide) (by rw [c1_11]; decide) (by decide) ?_
                          refine lv_aload_n hx hb dX1_numberOfDisk_125 rfl (lv_at hl 0 rfl) ?_
                          refine va_get (D := D) (ci := 2) (v := .int u.2.2.2.2.2.2.2.2.2.2.2.2.2.2.2.1) (C := RX1) (T := TX1) (N := 17) hx hb hW inlX1 hown hK hP 0 rfl rfl 15 (by decide) (hW _ wd_58) (fun _ h9 => h9) rfl dX1_numberOfDisk_126 ?_
                          obtain rfl := zo hf
                          exact hret _ _ _ _ _ hP hD hS rfl dX1_numberOfDisk_129
                        · replace hf := zi_n hf n1_11
                          refine lv_tableOut (tgt := 130) hx hb dX1_numberOfDisk_1 (by have h0 := lv_neT (a := 0) n1_0 (by decide); have h1 := lv_neT (a := 1) n1_1 (by decide); have h2 := lv_neT (a := 2) n1_2 (by decide); have h3 := lv_neT (a := 3) n1_3 (by decide); have h4 := lv_neT (a := 4) n1_4 (by decide); have h5 := lv_neT (a := 5) n1_5 (by decide); have h6 := lv_neT (a := 6) n1_6 (by decide); have h7 := lv_neT (a := 7) n1_7 (by decide); have h8 := lv_neT (a := 8) n1_8 (by decide); have h9 := lv_neT (a := 9) n1_9 (by decide); have h10 := lv_neT (a := 10) n1_10 (by decide); have h11 := lv_neT (a := 11) n1_11 (by decide); omega) (by decide) ?_
                          refine lv_aload_n hx hb dX1_numberOfDisk_130 rfl (lv_at hl 0 rfl) ?_
                          refine va_get (D := D) (ci := 2) (v := .int u.2.2.2.2.2.2.2.2.2.2.2.2.2.2.2.2) (C := RX1) (T := TX1) (N := 17) hx hb hW inlX1 hown hK hP 0 rfl rfl 16 (by decide) (hW _ wd_59) (fun _ h9 => h9) rfl dX1_numberOfDisk_131 ?_
                          obtain rfl := zo hf
                          exact hret _ _ _ _ _ hP hD hS rfl dX1_numberOfDisk_134
noncomputable def q_X1_numberOfSpan (u : tX1) (p1 : Int32) (p2 : Int32) : Option (Int32) :=
  zb (q_X6_isSpan p1) fun r1 => (if r1 = 0 then some ((-1)) else (if p2 = 0 then zg 8 u.2.1 p1 fun a53 => some (a53) else if p2 = 1 then zb (q_X1_ageOf u p1) fun r57 => some (r57) else if p2 = 2 then zb (q_X5_sizeOf u.2.2.1 p1) fun r66 => some (r66) else if p2 = 3 then zb (q_X5_sumOf u.2.2.1 p1 9) fun r77 => some (r77) else if p2 = 4 then zb (q_X1_isOverdue u p1) fun r83 => (if r83 = 0 then zb (q_X1_isDue u p1) fun r95 => (if r95 = 0 then some (0) else some (1)) else some (2)) else if p2 = 5 then zb (q_X1_ticksOfCheck u p1) fun r109 => some (r109) else zb (q_X0_placeOf u.2.2.2.1 p1) fun r118 => some (r118)))
set_option maxRecDepth 100000 in
set_option maxHeartbeats 4000000 in
theorem c_X1_numberOfSpan (l : Launch) (D : va_G) (G : zG) (ad : Nat → Nat) (b : Nat) (u : tX1) (p1 : Int32) (p2 : Int32) (res : Int32) (hf : q_X1_numberOfSpan u p1 p2 = some res) : zMi l yX1_numberOfSpan cX1_numberOfSpan 3 (some .int) 3 77 D G (wX1 G ad b u) (wX1 G ad b u) [.ref (ad b), .int p1, .int p2] res := by
  refine zs_i (plainFor_of_name (by decide)) (Nat.le_of_ble_eq_true rfl) ?_
  intro p e s m args below meth c A Q H ls C0 hret hP hD hS hl
  obtain ⟨hx, hb, hml, hown, hW, hK, hlocks, hF, hr, hA⟩ := id C0
  replace hl : lv_has ls 3 [(0, .ref (ad b)), (1, .int p1), (2, .int p2)] := hl
  unfold q_X1_numberOfSpan at hf
  refine lv_iload_n hx hb dX1_numberOfSpan_0 rfl (lv_at hl 1 rfl) ?_
  replace hf := zb_s hf
  obtain ⟨r1, hr1, hf⟩ := hf
  refine z_Ni (rest := []) C0 kX1_105 (c_X6_isSpan l D G p1 r1 hr1) (List.Perm.refl _) (List.Perm.refl _) rfl ⟨Nat.le_of_ble_eq_true rfl, Nat.le_of_ble_eq_true rfl⟩ (Nat.le_of_ble_eq_true rfl) rfl hl.1 hP hD hS dX1_numberOfSpan_1 (fun H locs hP hD hS => ?_)
  refine lv_if_ne (tgt := 9) hx hb dX1_numberOfSpan_4 (by decide) (fun c4 => ?_) (fun c4 => ?_)
  · replace hf := zi_n hf c4
    refine lv_iload_n hx hb dX1_numberOfSpan_9 rfl (lv_at hl 2 rfl) ?_
    refine z_by (c := p2 = 0) (fun c10_0 => ?_) (fun n10_0 => ?_)
    · replace hf := zi_p hf c10_0
      refine lv_tableIn (off := 38) (tgt := 48) hx hb dX1_numberOfSpan_10 (by rw [c10_0]; decide) (by rw [c10_0]; decide) (by rw [c10_0]; decide) (by decide) ?_
      refine lv_aload_n hx hb dX1_numberOfSpan_48 rfl (lv_at hl 0 rfl) ?_
      refine va_get (D := D) (ci := 2) (v := .ref (ad (b + 2))) (C := RX1) (T := TX1) (N := 17) hx hb hW inlX1 hown hK hP 0 rfl rfl 1 (by decide) (hW _ wd_35) (fun _ h9 => h9) rfl dX1_numberOfSpan_49 ?_
      refine lv_iload_n hx hb dX1_numberOfSpan_52 rfl (lv_at hl 1 rfl) ?_
      replace hf := zg_s hf
      obtain ⟨hi53, a53, ea53, hf⟩ := hf
      refine z_iald hx hb hK hP 2 0 rfl rfl hi53 ea53 dX1_numberOfSpan_53 ?_
      obtain rfl := zo hf
      exact hret _ _ _ _ _ hP hD hS rfl dX1_numberOfSpan_54
    · replace hf := zi_n hf n10_0
      refine z_by (c := p2 = 1) (fun c10_1 => ?_) (fun n10_1 => ?_)
      · replace hf := zi_p hf c10_1
        refine lv_tableIn (off := 45) (tgt := 55) hx hb dX1_numberOfSpan_10 (by rw [c10_1]; decide) (by rw [c10_1]; decide) (by rw [c10_1]; decide) (by decide) ?_
        refine lv_aload_n hx hb dX1_numberOfSpan_55 rfl (lv_at hl 0 rfl) ?_
        refine lv_iload_n hx hb dX1_numberOfSpan_56 rfl (lv_at hl 1 rfl) ?_
        replace hf := zb_s hf
        obtain ⟨r57, hr57, hf⟩ := hf
        refine z_Vi (rest := []) C0 kX1_166 (c_X1_ageOf l D G ad (b) u p1 r57 hr57) z_pall z_pall.symm (ci := 2) (T := TX1) (N := 17) rfl rfl rfl ⟨Nat.le_of_ble_eq_true rfl, Nat.le_of_ble_eq_true rfl⟩ (Nat.le_of_ble_eq_true rfl) rfl hl.1 hP hD hS dX1_numberOfSpan_57 (fun H locs hP hD hS => ?_)
        obtain rfl := zo hf
        exact hret _ _ _ _ _ hP hD hS rfl dX1_numberOfSpan_60
      · replace hf := zi_n hf n10_1
        refine z_by (c := p2 = 2) (fun c10_2 => ?_) (fun n10_2 => ?_)
        · replace hf := zi_p hf c10_2
          refine lv_tableIn (off := 51) (tgt := 61) hx hb dX1_numberOfSpan_10 (by rw [c10_2]; decide) (by rw [c10_2]; decide) (by rw [c10_2]; decide) (by decide) ?_
          refine lv_aload_n hx hb dX1_numberOfSpan_61 rfl (lv_at hl 0 rfl) ?_
          refine va_get (D := D) (ci := 2) (v := .ref (ad (b + 3))) (C := RX1) (T := TX1) (N := 17) hx hb hW inlX1 hown hK hP 0 rfl rfl 2 (by decide) (hW _ wd_39) (fun _ h9 => h9) rfl dX1_numberOfSpan_62 ?_
          refine lv_iload_n hx hb dX1_numberOfSpan_65 rfl (lv_at hl 1 rfl) ?_
          replace hf := zb_s hf
          obtain ⟨r66, hr66, hf⟩ := hf
          refine z_Vi (rest := []) C0 kX1_112 (c_X5_sizeOf l D G ad (b + 3) u.2.2.1 p1 r66 hr66) (pmX1_spots G ad (b) u) ((pmX1_spots G ad (b) u)).symm (ci := 6) (T := TX5) (N := 3) rfl rfl rfl ⟨Nat.le_of_ble_eq_true rfl, Nat.le_of_ble_eq_true rfl⟩ (Nat.le_of_ble_eq_true rfl) rfl hl.1 hP hD hS dX1_numberOfSpan_66 (fun H locs hP hD hS => ?_)
          obtain rfl := zo hf
          exact hret _ _ _ _ _ hP hD hS rfl dX1_numberOfSpan_69
        · replace hf := zi_n hf n10_2
          refine z_by (c := p2 = 3) (fun c10_3 => ?_) (fun n10_3 => ?_)
          · replace hf := zi_p hf c10_3
            refine lv_tableIn (off := 60) (tgt := 70) hx hb dX1_numberOfSpan_10 (by rw [c10_3]; decide) (by rw [c10_3]; decide) (by rw [c10_3]; decide) (by decide) ?_
            refine lv_aload_n hx hb dX1_numberOfSpan_70 rfl (lv_at hl 0 rfl) ?_
            refine va_get (D := D) (ci := 2) (v := .ref (ad (b + 3))) (C := RX1) (T := TX1) (N := 17) hx hb hW inlX1 hown hK hP 0 rfl rfl 2 (by decide) (hW _ wd_39) (fun _ h9 => h9) rfl dX1_numberOfSpan_71 ?_
            refine lv_iload_n hx hb dX1_numberOfSpan_74 rfl (lv_at hl 1 rfl) ?_
            refine lv_bipush (v := 9) hx hb dX1_numberOfSpan_75 (by decide) ?_
            replace hf := zb_s hf
            obtain ⟨r77, hr77, hf⟩ := hf
            refine z_Vi (rest := []) C0 kX1_169 (c_X5_sumOf l D G ad (b + 3) u.2.2.1 p1 9 r77 hr77) (pmX1_spots G ad (b) u) ((pmX1_spots G ad (b) u)).symm (ci := 6) (T := TX5) (N := 3) rfl rfl rfl ⟨Nat.le_of_ble_eq_true rfl, Nat.le_of_ble_eq_true rfl⟩ (Nat.le_of_ble_eq_true rfl) rfl hl.1 hP hD hS dX1_numberOfSpan_77 (fun H locs hP hD hS => ?_)
            obtain rfl := zo hf
            exact hret _ _ _ _ _ hP hD hS rfl dX1_numberOfSpan_80
          · replace hf := zi_n hf n10_3
            refine z_by (c := p2 = 4) (fun c10_4 => ?_) (fun n10_4 => ?_)
            · replace hf := zi_p hf c10_4
              refine lv_tableIn (off := 71) (tgt := 81) hx hb dX1_numberOfSpan_10 (by rw [c10_4]; decide) (by rw [c10_4]; decide) (by rw [c10_4]; decide) (by decide) ?_
              refine lv_aload_n hx hb dX1_numberOfSpan_81 rfl (lv_at hl 0 rfl) ?_
              refine lv_iload_n hx hb dX1_numberOfSpan_82 rfl (lv_at hl 1 rfl) ?_
              replace hf := zb_s hf
              obtain ⟨r83, hr83, hf⟩ := hf
              refine z_Vi (rest := []) C0 kX1_189 (c_X1_isOverdue l D G ad (b) u p1 r83 hr83) z_pall z_pall.symm (ci := 2) (T := TX1) (N := 17) rfl rfl rfl ⟨Nat.le_of_ble_eq_true rfl, Nat.le_of_ble_eq_true rfl⟩ (Nat.le_of_ble_eq_true rfl) rfl hl.1 hP hD hS dX1_numberOfSpan_83 (fun H locs hP hD hS => ?_)
              refine lv_if_eq (tgt := 93) hx hb dX1_numberOfSpan_86 (by decide) (fun c86 => ?_) (fun c86 => ?_)
              · replace hf := zi_p hf c86
                refine lv_aload_n hx hb dX1_numberOfSpan_93 rfl (lv_at hl 0 rfl) ?_
                refine lv_iload_n hx hb dX1_numberOfSpan_94 rfl (lv_at hl 1 rfl) ?_
                replace hf := zb_s hf
                obtain ⟨r95, hr95, hf⟩ := hf
                refine z_Vi (rest := []) C0 kX1_160 (c_X1_isDue l D G ad (b) u p1 r95 hr95) z_pall z_pall.symm (ci := 2) (T := TX1) (N := 17) rfl rfl rfl ⟨Nat.le_of_ble_eq_true rfl, Nat.le_of_ble_eq_true rfl⟩ (Nat.le_of_ble_eq_true rfl) rfl hl.1 hP hD hS dX1_numberOfSpan_95 (fun H locs hP hD hS => ?_)
                refine lv_if_eq (tgt := 105) hx hb dX1_numberOfSpan_98 (by decide) (fun c98 => ?_) (fun c98 => ?_)
                · replace hf := zi_p hf c98
                  refine lv_iconst (v := 0) hx hb dX1_numberOfSpan_105 (by decide) ?_
                  obtain rfl := zo hf
                  exact hret _ _ _ _ _ hP hD hS rfl dX1_numberOfSpan_106
                · replace hf := zi_n hf c98
                  refine lv_iconst (v := 1) hx hb dX1_numberOfSpan_101 (by decide) ?_
                  refine lv_goto (tgt := 106) hx hb dX1_numberOfSpan_102 (by decide) ?_
                  obtain rfl := zo hf
                  exact hret _ _ _ _ _ hP hD hS rfl dX1_numberOfSpan_106
              · replace hf := zi_n hf c86
                refine lv_iconst (v := 2) hx hb dX1_numberOfSpan_89 (by decide) ?_
                refine lv_goto (tgt := 106) hx hb dX1_numberOfSpan_90 (by decide) ?_
                obtain rfl := zo hf
                exact hret _ _ _ _ _ hP hD hS rfl dX1_numberOfSpan_106
            · replace hf := zi_n hf n10_4
              refine z_by (c := p2 = 5) (fun c10_5 => ?_) (fun n10_5 => ?_)
              · replace hf := zi_p hf c10_5
                refine lv_tableIn (off := 97) (tgt := 107) hx hb dX1_numberOfSpan_10 (by rw [c10_5]; decide) (by rw [c10_5]; decide) (by rw [c10_5]; decide) (by decide) ?_
                refine lv_aload_n hx hb dX1_numberOfSpan_107 rfl (lv_at hl 0 rfl) ?_
                refine lv_iload_n hx hb dX1_numberOfSpan_108 rfl (lv_at hl 1 rfl) ?_
                replace hf := zb_s hf
                obtain ⟨r109, hr109, hf⟩ := hf
                refine z_Vi (rest := []) C0 kX1_173 (c_X1_ticksOfCheck l D G ad (b) u p1 r109 hr109) z_pall z_pall.symm (ci := 2) (T := TX1) (N := 17) rfl rfl rfl ⟨Nat.le_of_ble_eq_true rfl, Nat.le_of_ble_eq_true rfl⟩ (Nat.le_of_ble_eq_true rfl) rfl hl.1 hP hD hS dX1_numberOfSpan_109 (fun H locs hP hD hS => ?_)
                obtain rfl := zo hf
                exact hret _ _ _ _ _ hP hD hS rfl dX1_numberOfSpan_112
              · replace hf := zi_n hf n10_5
                refine lv_tableOut (tgt := 113) hx hb dX1_numberOfSpan_10 (by have h0 := lv_neT (a := 0) n10_0 (by decide); have h1 := lv_neT (a := 1) n10_1 (by decide); have h2 := lv_neT (a := 2) n10_2 (by decide); have h3 := lv_neT (a := 3) n10_3 (by decide); have h4 := lv_neT (a := 4) n10_4 (by decide); have h5 := lv_neT (a := 5) n10_5 (by decide); omega) (by decide) ?_
                refine lv_aload_n hx hb dX1_numberOfSpan_113 rfl (lv_at hl 0 rfl) ?_
                refine va_get (D := D) (ci := 2) (v := .ref (ad (b + 6))) (C := RX1) (T := TX1) (N := 17) hx hb hW inlX1 hown hK hP 0 rfl rfl 3 (by decide) (hW _ wd_43) (fun _ h9 => h9) rfl dX1_numberOfSpan_114 ?_
                refine lv_iload_n hx hb dX1_numberOfSpan_117 rfl (lv_at hl 1 rfl) ?_
                replace hf := zb_s hf
                obtain ⟨r118, hr118, hf⟩ := hf
                refine z_Vi (rest := []) C0 kX1_116 (c_X0_placeOf l D G ad (b + 6) u.2.2.2.1 p1 r118 hr118) (pmX1_asked G ad (b) u) ((pmX1_asked G ad (b) u)).symm (ci := 1) (T := TX0) (N := 2) rfl rfl rfl ⟨Nat.le_of_ble_eq_true rfl, Nat.le_of_ble_eq_true rfl⟩ (Nat.le_of_ble_eq_true rfl) rfl hl.1 hP hD hS dX1_numberOfSpan_118 (fun H locs hP hD hS => ?_)
                obtain rfl := zo hf
                exact hret _ _ _ _ _ hP hD hS rfl dX1_numberOfSpan_121
  · replace hf := zi_p hf c4
    refine lv_iconst (v := (-1)) hx hb dX1_numberOfSpan_7 (by decide) ?_
    obtain rfl := zo hf
    exact hret _ _ _ _ _ hP hD hS rfl dX1_numberOfSpan_8
end

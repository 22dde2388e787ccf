section
-- ===== PART A: goes FIRST, ahead of the names: the tables' words, and 'selects' of the private methods out of them =====
/-- a private method of a class that the tables say can be made, by its rows of tables_1 -/
def lw_okq (q : MethodName × Nat) : Prop := (q.1.cls ≠ "java/lang/invoke/MethodHandle" ∧ q.1.cls ≠ "java/lang/invoke/VarHandle") ∧ Cond.instantiable q.1.cls q.2 ∈ tables_1 ∧ Cond.privateMethod q.1 ∈ tables_1 ∧ Cond.instanceMethod q.1 ∈ tables_1
theorem lw_p0 : lw_okq (⟨"MirrorWorks", "putReady", "(II)V"⟩, 14) := ⟨⟨by decide +kernel, by decide +kernel⟩, List.mem_of_getElem? (i := 34) (by decide +kernel), List.mem_of_getElem? (i := 291) (by decide +kernel), List.mem_of_getElem? (i := 292) (by decide +kernel)⟩
theorem lw_p1 : lw_okq (⟨"MirrorWorks", "takeTape", "()[B"⟩, 14) := ⟨⟨by decide +kernel, by decide +kernel⟩, List.mem_of_getElem? (i := 34) (by decide +kernel), List.mem_of_getElem? (i := 309) (by decide +kernel), List.mem_of_getElem? (i := 310) (by decide +kernel)⟩
theorem lw_p2 : lw_okq (⟨"MirrorWorks", "entryOf", "(II)LMirrorWorks$Entry;"⟩, 14) := ⟨⟨by decide +kernel, by decide +kernel⟩, List.mem_of_getElem? (i := 34) (by decide +kernel), List.mem_of_getElem? (i := 348) (by decide +kernel), List.mem_of_getElem? (i := 349) (by decide +kernel)⟩
theorem lw_p3 : lw_okq (⟨"MirrorWorks$Sums", "loadBlock", "([BI)V"⟩, 2) := ⟨⟨by decide +kernel, by decide +kernel⟩, List.mem_of_getElem? (i := 196) (by decide +kernel), List.mem_of_getElem? (i := 371) (by decide +kernel), List.mem_of_getElem? (i := 372) (by decide +kernel)⟩
theorem lw_p4 : lw_okq (⟨"MirrorWorks$Sums", "spreadSchedule", "()V"⟩, 2) := ⟨⟨by decide +kernel, by decide +kernel⟩, List.mem_of_getElem? (i := 196) (by decide +kernel), List.mem_of_getElem? (i := 375) (by decide +kernel), List.mem_of_getElem? (i := 376) (by decide +kernel)⟩
theorem lw_p5 : lw_okq (⟨"MirrorWorks$Sums", "mixBlock", "()V"⟩, 2) := ⟨⟨by decide +kernel, by decide +kernel⟩, List.mem_of_getElem? (i := 196) (by decide +kernel), List.mem_of_getElem? (i := 379) (by decide +kernel), List.mem_of_getElem? (i := 380) (by decide +kernel)⟩
theorem lw_p6 : lw_okq (⟨"MirrorWorks", "isWorking", "()Z"⟩, 14) := ⟨⟨by decide +kernel, by decide +kernel⟩, List.mem_of_getElem? (i := 34) (by decide +kernel), List.mem_of_getElem? (i := 397) (by decide +kernel), List.mem_of_getElem? (i := 398) (by decide +kernel)⟩
theorem lw_p7 : lw_okq (⟨"MirrorWorks$Drive", "place", "(II[B)I"⟩, 2) := ⟨⟨by decide +kernel, by decide +kernel⟩, List.mem_of_getElem? (i := 108) (by decide +kernel), List.mem_of_getElem? (i := 470) (by decide +kernel), List.mem_of_getElem? (i := 471) (by decide +kernel)⟩
theorem lw_p8 : lw_okq (⟨"java/lang/Throwable", "fillInStackTrace", "(I)Ljava/lang/Throwable;"⟩, 6) := ⟨⟨by decide +kernel, by decide +kernel⟩, List.mem_of_getElem? (i := 532) (by decide +kernel), List.mem_of_getElem? (i := 530) (by decide +kernel), List.mem_of_getElem? (i := 531) (by decide +kernel)⟩
theorem lw_p9 : lw_okq (⟨"MirrorWorks", "hasDirectory", "([B)Z"⟩, 14) := ⟨⟨by decide +kernel, by decide +kernel⟩, List.mem_of_getElem? (i := 34) (by decide +kernel), List.mem_of_getElem? (i := 575) (by decide +kernel), List.mem_of_getElem? (i := 576) (by decide +kernel)⟩
theorem lw_p10 : lw_okq (⟨"MirrorWorks", "openSession", "(I)V"⟩, 14) := ⟨⟨by decide +kernel, by decide +kernel⟩, List.mem_of_getElem? (i := 34) (by decide +kernel), List.mem_of_getElem? (i := 655) (by decide +kernel), List.mem_of_getElem? (i := 656) (by decide +kernel)⟩
theorem lw_p11 : lw_okq (⟨"MirrorWorks$Drive", "leadBack", "(ILMirrorWorks$Tree;)V"⟩, 2) := ⟨⟨by decide +kernel, by decide +kernel⟩, List.mem_of_getElem? (i := 108) (by decide +kernel), List.mem_of_getElem? (i := 673) (by decide +kernel), List.mem_of_getElem? (i := 674) (by decide +kernel)⟩
theorem lw_p12 : lw_okq (⟨"MirrorWorks", "gatherTree", "(LMirrorWorks$Tree;LMirrorWorks$Tree;)I"⟩, 14) := ⟨⟨by decide +kernel, by decide +kernel⟩, List.mem_of_getElem? (i := 34) (by decide +kernel), List.mem_of_getElem? (i := 678) (by decide +kernel), List.mem_of_getElem? (i := 679) (by decide +kernel)⟩
theorem lw_p13 : lw_okq (⟨"MirrorWorks", "countDifferences", "([I)V"⟩, 14) := ⟨⟨by decide +kernel, by decide +kernel⟩, List.mem_of_getElem? (i := 34) (by decide +kernel), List.mem_of_getElem? (i := 693) (by decide +kernel), List.mem_of_getElem? (i := 694) (by decide +kernel)⟩
theorem lw_p14 : lw_okq (⟨"MirrorWorks$Plan", "clear", "()V"⟩, 6) := ⟨⟨by decide +kernel, by decide +kernel⟩, List.mem_of_getElem? (i := 148) (by decide +kernel), List.mem_of_getElem? (i := 795) (by decide +kernel), List.mem_of_getElem? (i := 796) (by decide +kernel)⟩
theorem lw_p15 : lw_okq (⟨"MirrorWorks$Plan", "addWrite", "(LMirrorWorks$DiskFile;)V"⟩, 6) := ⟨⟨by decide +kernel, by decide +kernel⟩, List.mem_of_getElem? (i := 148) (by decide +kernel), List.mem_of_getElem? (i := 808) (by decide +kernel), List.mem_of_getElem? (i := 809) (by decide +kernel)⟩
def lw_privs_1 : List (MethodName × Nat) := [(⟨"MirrorWorks", "putReady", "(II)V"⟩, 14), (⟨"MirrorWorks", "takeTape", "()[B"⟩, 14), (⟨"MirrorWorks", "entryOf", "(II)LMirrorWorks$Entry;"⟩, 14), (⟨"MirrorWorks$Sums", "loadBlock", "([BI)V"⟩, 2), (⟨"MirrorWorks$Sums", "spreadSchedule", "()V"⟩, 2), (⟨"MirrorWorks$Sums", "mixBlock", "()V"⟩, 2), (⟨"MirrorWorks", "isWorking", "()Z"⟩, 14), (⟨"MirrorWorks$Drive", "place", "(II[B)I"⟩, 2), (⟨"java/lang/Throwable", "fillInStackTrace", "(I)Ljava/lang/Throwable;"⟩, 6), (⟨"MirrorWorks", "hasDirectory", "([B)Z"⟩, 14), (⟨"MirrorWorks", "openSession", "(I)V"⟩, 14), (⟨"MirrorWorks$Drive", "leadBack", "(ILMirrorWorks$Tree;)V"⟩, 2), (⟨"MirrorWorks", "gatherTree", "(LMirrorWorks$Tree;LMirrorWorks$Tree;)I"⟩, 14), (⟨"MirrorWorks", "countDifferences", "([I)V"⟩, 14), (⟨"MirrorWorks$Plan", "clear", "()V"⟩, 6), (⟨"MirrorWorks$Plan", "addWrite", "(LMirrorWorks$DiskFile;)V"⟩, 6)]
theorem lw_r1 : ∀ q ∈ lw_privs_1, lw_okq q := List.forall_mem_cons.mpr ⟨lw_p0, List.forall_mem_cons.mpr ⟨lw_p1, List.forall_mem_cons.mpr ⟨lw_p2, List.forall_mem_cons.mpr ⟨lw_p3, List.forall_mem_cons.mpr ⟨lw_p4, List.forall_mem_cons.mpr ⟨lw_p5, List.forall_mem_cons.mpr ⟨lw_p6, List.forall_mem_cons.mpr ⟨lw_p7, List.forall_mem_cons.mpr ⟨lw_p8, List.forall_mem_cons.mpr ⟨lw_p9, List.forall_mem_cons.mpr ⟨lw_p10, List.forall_mem_cons.mpr ⟨lw_p11, List.forall_mem_cons.mpr ⟨lw_p12, List.forall_mem_cons.mpr ⟨lw_p13, List.forall_mem_cons.mpr ⟨lw_p14, List.forall_mem_cons.mpr ⟨lw_p15, fun _ h => absurd h List.not_mem_nil⟩⟩⟩⟩⟩⟩⟩⟩⟩⟩⟩⟩⟩⟩⟩⟩
theorem lw_p16 : lw_okq (⟨"java/util/ArrayList", "add", "(Ljava/lang/Object;[Ljava/lang/Object;I)V"⟩, 3) := ⟨⟨by decide +kernel, by decide +kernel⟩, List.mem_of_getElem? (i := 114) (by decide +kernel), List.mem_of_getElem? (i := 816) (by decide +kernel), List.mem_of_getElem? (i := 817) (by decide +kernel)⟩
theorem lw_p17 : lw_okq (⟨"java/util/ArrayList", "grow", "()[Ljava/lang/Object;"⟩, 3) := ⟨⟨by decide +kernel, by decide +kernel⟩, List.mem_of_getElem? (i := 114) (by decide +kernel), List.mem_of_getElem? (i := 820) (by decide +kernel), List.mem_of_getElem? (i := 821) (by decide +kernel)⟩
theorem lw_p18 : lw_okq (⟨"java/util/ArrayList", "grow", "(I)[Ljava/lang/Object;"⟩, 3) := ⟨⟨by decide +kernel, by decide +kernel⟩, List.mem_of_getElem? (i := 114) (by decide +kernel), List.mem_of_getElem? (i := 824) (by decide +kernel), List.mem_of_getElem? (i := 825) (by decide +kernel)⟩
theorem lw_p19 : lw_okq (⟨"MirrorWorks$Plan", "addSync", "()V"⟩, 6) := ⟨⟨by decide +kernel, by decide +kernel⟩, List.mem_of_getElem? (i := 148) (by decide +kernel), List.mem_of_getElem? (i := 868) (by decide +kernel), List.mem_of_getElem? (i := 869) (by decide +kernel)⟩
theorem lw_p20 : lw_okq (⟨"MirrorWorks$Plan", "planChange", "(I[BLMirrorWorks$DiskFile;[B)V"⟩, 6) := ⟨⟨by decide +kernel, by decide +kernel⟩, List.mem_of_getElem? (i := 148) (by decide +kernel), List.mem_of_getElem? (i := 885) (by decide +kernel), List.mem_of_getElem? (i := 886) (by decide +kernel)⟩
theorem lw_p21 : lw_okq (⟨"MirrorWorks$Plan", "addRename", "(LMirrorWorks$DiskFile;LMirrorWorks$DiskFile;)V"⟩, 6) := ⟨⟨by decide +kernel, by decide +kernel⟩, List.mem_of_getElem? (i := 148) (by decide +kernel), List.mem_of_getElem? (i := 889) (by decide +kernel), List.mem_of_getElem? (i := 890) (by decide +kernel)⟩
theorem lw_p22 : lw_okq (⟨"MirrorWorks$Plan", "planDropOfSetAside", "()V"⟩, 6) := ⟨⟨by decide +kernel, by decide +kernel⟩, List.mem_of_getElem? (i := 148) (by decide +kernel), List.mem_of_getElem? (i := 893) (by decide +kernel), List.mem_of_getElem? (i := 894) (by decide +kernel)⟩
theorem lw_p23 : lw_okq (⟨"MirrorWorks$Plan", "addDelete", "(LMirrorWorks$DiskFile;)V"⟩, 6) := ⟨⟨by decide +kernel, by decide +kernel⟩, List.mem_of_getElem? (i := 148) (by decide +kernel), List.mem_of_getElem? (i := 899) (by decide +kernel), List.mem_of_getElem? (i := 900) (by decide +kernel)⟩
theorem lw_p24 : lw_okq (⟨"MirrorWorks", "takeTime", "()I"⟩, 14) := ⟨⟨by decide +kernel, by decide +kernel⟩, List.mem_of_getElem? (i := 34) (by decide +kernel), List.mem_of_getElem? (i := 914) (by decide +kernel), List.mem_of_getElem? (i := 915) (by decide +kernel)⟩
theorem lw_p25 : lw_okq (⟨"MirrorWorks$Words", "isWord", "(I)Z"⟩, 4) := ⟨⟨by decide +kernel, by decide +kernel⟩, List.mem_of_getElem? (i := 209) (by decide +kernel), List.mem_of_getElem? (i := 927) (by decide +kernel), List.mem_of_getElem? (i := 928) (by decide +kernel)⟩
theorem lw_p26 : lw_okq (⟨"MirrorWorks$Words", "countDigits", "(II)I"⟩, 4) := ⟨⟨by decide +kernel, by decide +kernel⟩, List.mem_of_getElem? (i := 209) (by decide +kernel), List.mem_of_getElem? (i := 982) (by decide +kernel), List.mem_of_getElem? (i := 983) (by decide +kernel)⟩
theorem lw_p27 : lw_okq (⟨"MirrorWorks$Words", "readDigits", "(III)I"⟩, 4) := ⟨⟨by decide +kernel, by decide +kernel⟩, List.mem_of_getElem? (i := 209) (by decide +kernel), List.mem_of_getElem? (i := 986) (by decide +kernel), List.mem_of_getElem? (i := 987) (by decide +kernel)⟩
theorem lw_p28 : lw_okq (⟨"MirrorWorks$Words", "readSpan", "(II)J"⟩, 4) := ⟨⟨by decide +kernel, by decide +kernel⟩, List.mem_of_getElem? (i := 209) (by decide +kernel), List.mem_of_getElem? (i := 994) (by decide +kernel), List.mem_of_getElem? (i := 995) (by decide +kernel)⟩
theorem lw_p29 : lw_okq (⟨"MirrorWorks", "openPruning", "(I)V"⟩, 14) := ⟨⟨by decide +kernel, by decide +kernel⟩, List.mem_of_getElem? (i := 34) (by decide +kernel), List.mem_of_getElem? (i := 1058) (by decide +kernel), List.mem_of_getElem? (i := 1059) (by decide +kernel)⟩
theorem lw_p30 : lw_okq (⟨"MirrorWorks$Plan", "planDropOfWaysBack", "(I)V"⟩, 6) := ⟨⟨by decide +kernel, by decide +kernel⟩, List.mem_of_getElem? (i := 148) (by decide +kernel), List.mem_of_getElem? (i := 1069) (by decide +kernel), List.mem_of_getElem? (i := 1070) (by decide +kernel)⟩
theorem lw_p31 : lw_okq (⟨"MirrorWorks", "openRecovery", "()V"⟩, 14) := ⟨⟨by decide +kernel, by decide +kernel⟩, List.mem_of_getElem? (i := 34) (by decide +kernel), List.mem_of_getElem? (i := 1081) (by decide +kernel), List.mem_of_getElem? (i := 1082) (by decide +kernel)⟩
def lw_privs_2 : List (MethodName × Nat) := [(⟨"java/util/ArrayList", "add", "(Ljava/lang/Object;[Ljava/lang/Object;I)V"⟩, 3), (⟨"java/util/ArrayList", "grow", "()[Ljava/lang/Object;"⟩, 3), (⟨"java/util/ArrayList", "grow", "(I)[Ljava/lang/Object;"⟩, 3), (⟨"MirrorWorks$Plan", "addSync", "()V"⟩, 6), (⟨"MirrorWorks$Plan", "planChange", "(I[BLMirrorWorks$DiskFile;[B)V"⟩, 6), (⟨"MirrorWorks$Plan", "addRename", "(LMirrorWorks$DiskFile;LMirrorWorks$DiskFile;)V"⟩, 6), (⟨"MirrorWorks$Plan", "planDropOfSetAside", "()V"⟩, 6), (⟨"MirrorWorks$Plan", "addDelete", "(LMirrorWorks$DiskFile;)V"⟩, 6), (⟨"MirrorWorks", "takeTime", "()I"⟩, 14), (⟨"MirrorWorks$Words", "isWord", "(I)Z"⟩, 4), (⟨"MirrorWorks$Words", "countDigits", "(II)I"⟩, 4), (⟨"MirrorWorks$Words", "readDigits", "(III)I"⟩, 4), (⟨"MirrorWorks$Words", "readSpan", "(II)J"⟩, 4), (⟨"MirrorWorks", "openPruning", "(I)V"⟩, 14), (⟨"MirrorWorks$Plan", "planDropOfWaysBack", "(I)V"⟩, 6), (⟨"MirrorWorks", "openRecovery", "()V"⟩, 14)]
theorem lw_r2 : ∀ q ∈ lw_privs_2, lw_okq q := List.forall_mem_cons.mpr ⟨lw_p16, List.forall_mem_cons.mpr ⟨lw_p17, List.forall_mem_cons.mpr ⟨lw_p18, List.forall_mem_cons.mpr ⟨lw_p19, List.forall_mem_cons.mpr ⟨lw_p20, List.forall_mem_cons.mpr ⟨lw_p21, List.forall_mem_cons.mpr ⟨lw_p22, List.forall_mem_cons.mpr ⟨lw_p23, List.forall_mem_cons.mpr ⟨lw_p24, List.forall_mem_cons.mpr ⟨lw_p25, List.forall_mem_cons.mpr ⟨lw_p26, List.forall_mem_cons.mpr ⟨lw_p27, List.forall_mem_cons.mpr ⟨lw_p28, List.forall_mem_cons.mpr ⟨lw_p29, List.forall_mem_cons.mpr ⟨lw_p30, List.forall_mem_cons.mpr ⟨lw_p31, fun _ h => absurd h List.not_mem_nil⟩⟩⟩⟩⟩⟩⟩⟩⟩⟩⟩⟩⟩⟩⟩⟩
theorem lw_p32 : lw_okq (⟨"MirrorWorks$Plan", "planUndoing", "(LMirrorWorks$DiskFile;)V"⟩, 6) := ⟨⟨by decide +kernel, by decide +kernel⟩, List.mem_of_getElem? (i := 148) (by decide +kernel), List.mem_of_getElem? (i := 1089) (by decide +kernel), List.mem_of_getElem? (i := 1090) (by decide +kernel)⟩
theorem lw_p33 : lw_okq (⟨"MirrorWorks$Plan", "planFinishing", "()V"⟩, 6) := ⟨⟨by decide +kernel, by decide +kernel⟩, List.mem_of_getElem? (i := 148) (by decide +kernel), List.mem_of_getElem? (i := 1093) (by decide +kernel), List.mem_of_getElem? (i := 1094) (by decide +kernel)⟩
theorem lw_p34 : lw_okq (⟨"MirrorWorks", "advance", "(I)I"⟩, 14) := ⟨⟨by decide +kernel, by decide +kernel⟩, List.mem_of_getElem? (i := 34) (by decide +kernel), List.mem_of_getElem? (i := 1106) (by decide +kernel), List.mem_of_getElem? (i := 1107) (by decide +kernel)⟩
theorem lw_p35 : lw_okq (⟨"java/util/ArrayList", "fastRemove", "([Ljava/lang/Object;I)V"⟩, 3) := ⟨⟨by decide +kernel, by decide +kernel⟩, List.mem_of_getElem? (i := 114) (by decide +kernel), List.mem_of_getElem? (i := 1122) (by decide +kernel), List.mem_of_getElem? (i := 1123) (by decide +kernel)⟩
theorem lw_p36 : lw_okq (⟨"java/util/ArrayList", "rangeCheckForAdd", "(I)V"⟩, 3) := ⟨⟨by decide +kernel, by decide +kernel⟩, List.mem_of_getElem? (i := 114) (by decide +kernel), List.mem_of_getElem? (i := 1139) (by decide +kernel), List.mem_of_getElem? (i := 1140) (by decide +kernel)⟩
theorem lw_p37 : lw_okq (⟨"MirrorWorks$Plan", "takeBack", "(LMirrorWorks$Operation;)V"⟩, 6) := ⟨⟨by decide +kernel, by decide +kernel⟩, List.mem_of_getElem? (i := 148) (by decide +kernel), List.mem_of_getElem? (i := 1163) (by decide +kernel), List.mem_of_getElem? (i := 1164) (by decide +kernel)⟩
theorem lw_p38 : lw_okq (⟨"MirrorWorks", "readTreeOfTape", "()V"⟩, 14) := ⟨⟨by decide +kernel, by decide +kernel⟩, List.mem_of_getElem? (i := 34) (by decide +kernel), List.mem_of_getElem? (i := 1174) (by decide +kernel), List.mem_of_getElem? (i := 1175) (by decide +kernel)⟩
theorem lw_p39 : lw_okq (⟨"MirrorWorks", "countWrongSums", "()I"⟩, 14) := ⟨⟨by decide +kernel, by decide +kernel⟩, List.mem_of_getElem? (i := 34) (by decide +kernel), List.mem_of_getElem? (i := 1186) (by decide +kernel), List.mem_of_getElem? (i := 1187) (by decide +kernel)⟩
theorem lw_p40 : lw_okq (⟨"MirrorWorks$Words", "addWord", "(II)V"⟩, 4) := ⟨⟨by decide +kernel, by decide +kernel⟩, List.mem_of_getElem? (i := 209) (by decide +kernel), List.mem_of_getElem? (i := 1205) (by decide +kernel), List.mem_of_getElem? (i := 1206) (by decide +kernel)⟩
theorem lw_p41 : lw_okq (⟨"MirrorWorks", "checkAll", "()I"⟩, 14) := ⟨⟨by decide +kernel, by decide +kernel⟩, List.mem_of_getElem? (i := 34) (by decide +kernel), List.mem_of_getElem? (i := 1211) (by decide +kernel), List.mem_of_getElem? (i := 1212) (by decide +kernel)⟩
theorem lw_p42 : lw_okq (⟨"MirrorWorks", "showSessions", "()I"⟩, 14) := ⟨⟨by decide +kernel, by decide +kernel⟩, List.mem_of_getElem? (i := 34) (by decide +kernel), List.mem_of_getElem? (i := 1229) (by decide +kernel), List.mem_of_getElem? (i := 1230) (by decide +kernel)⟩
theorem lw_p43 : lw_okq (⟨"MirrorWorks", "backUp", "()I"⟩, 14) := ⟨⟨by decide +kernel, by decide +kernel⟩, List.mem_of_getElem? (i := 34) (by decide +kernel), List.mem_of_getElem? (i := 1239) (by decide +kernel), List.mem_of_getElem? (i := 1240) (by decide +kernel)⟩
theorem lw_p44 : lw_okq (⟨"MirrorWorks", "forget", "()I"⟩, 14) := ⟨⟨by decide +kernel, by decide +kernel⟩, List.mem_of_getElem? (i := 34) (by decide +kernel), List.mem_of_getElem? (i := 1261) (by decide +kernel), List.mem_of_getElem? (i := 1262) (by decide +kernel)⟩
theorem lw_p45 : lw_okq (⟨"MirrorWorks", "refusal", "(I)I"⟩, 14) := ⟨⟨by decide +kernel, by decide +kernel⟩, List.mem_of_getElem? (i := 34) (by decide +kernel), List.mem_of_getElem? (i := 1265) (by decide +kernel), List.mem_of_getElem? (i := 1266) (by decide +kernel)⟩
theorem lw_p46 : lw_okq (⟨"MirrorWorks", "checkSums", "()I"⟩, 14) := ⟨⟨by decide +kernel, by decide +kernel⟩, List.mem_of_getElem? (i := 34) (by decide +kernel), List.mem_of_getElem? (i := 1270) (by decide +kernel), List.mem_of_getElem? (i := 1271) (by decide +kernel)⟩
theorem lw_p47 : lw_okq (⟨"MirrorWorks", "showChanges", "()I"⟩, 14) := ⟨⟨by decide +kernel, by decide +kernel⟩, List.mem_of_getElem? (i := 34) (by decide +kernel), List.mem_of_getElem? (i := 1275) (by decide +kernel), List.mem_of_getElem? (i := 1276) (by decide +kernel)⟩
def lw_privs_3 : List (MethodName × Nat) := [(⟨"MirrorWorks$Plan", "planUndoing", "(LMirrorWorks$DiskFile;)V"⟩, 6), (⟨"MirrorWorks$Plan", "planFinishing", "()V"⟩, 6), (⟨"MirrorWorks", "advance", "(I)I"⟩, 14), (⟨"java/util/ArrayList", "fastRemove", "([Ljava/lang/Object;I)V"⟩, 3), (⟨"java/util/ArrayList", "rangeCheckForAdd", "(I)V"⟩, 3), (⟨"MirrorWorks$Plan", "takeBack", "(LMirrorWorks$Operation;)V"⟩, 6), (⟨"MirrorWorks", "readTreeOfTape", "()V"⟩, 14), (⟨"MirrorWorks", "countWrongSums", "()I"⟩, 14), (⟨"MirrorWorks$Words", "addWord", "(II)V"⟩, 4), (⟨"MirrorWorks", "checkAll", "()I"⟩, 14), (⟨"MirrorWorks", "showSessions", "()I"⟩, 14), (⟨"MirrorWorks", "backUp", "()I"⟩, 14), (⟨"MirrorWorks", "forget", "()I"⟩, 14), (⟨"MirrorWorks", "refusal", "(I)I"⟩, 14), (⟨"MirrorWorks", "checkSums", "()I"⟩, 14), (⟨"MirrorWorks", "showChanges", "()I"⟩, 14)]
theorem lw_r3 : ∀ q ∈ lw_privs_3, lw_okq q := List.forall_mem_cons.mpr ⟨lw_p32, List.forall_mem_cons.mpr ⟨lw_p33, List.forall_mem_cons.mpr ⟨lw_p34, List.forall_mem_cons.mpr ⟨lw_p35, List.forall_mem_cons.mpr ⟨lw_p36, List.forall_mem_cons.mpr ⟨lw_p37, List.forall_mem_cons.mpr ⟨lw_p38, List.forall_mem_cons.mpr ⟨lw_p39, List.forall_mem_cons.mpr ⟨lw_p40, List.forall_mem_cons.mpr ⟨lw_p41, List.forall_mem_cons.mpr ⟨lw_p42, List.forall_mem_cons.mpr ⟨lw_p43, List.forall_mem_cons.mpr ⟨lw_p44, List.forall_mem_cons.mpr ⟨lw_p45, List.forall_mem_cons.mpr ⟨lw_p46, List.forall_mem_cons.mpr ⟨lw_p47, fun _ h => absurd h List.not_mem_nil⟩⟩⟩⟩⟩⟩⟩⟩⟩⟩⟩⟩⟩⟩⟩⟩
theorem lw_p48 : lw_okq (⟨"MirrorWorks", "bringBack", "()I"⟩, 14) := ⟨⟨by decide +kernel, by decide +kernel⟩, List.mem_of_getElem? (i := 34) (by decide +kernel), List.mem_of_getElem? (i := 1289) (by decide +kernel), List.mem_of_getElem? (i := 1290) (by decide +kernel)⟩
theorem lw_p49 : lw_okq (⟨"MirrorWorks", "readNamedEntries", "()I"⟩, 14) := ⟨⟨by decide +kernel, by decide +kernel⟩, List.mem_of_getElem? (i := 34) (by decide +kernel), List.mem_of_getElem? (i := 1293) (by decide +kernel), List.mem_of_getElem? (i := 1294) (by decide +kernel)⟩
theorem lw_p50 : lw_okq (⟨"MirrorWorks", "showEntries", "()I"⟩, 14) := ⟨⟨by decide +kernel, by decide +kernel⟩, List.mem_of_getElem? (i := 34) (by decide +kernel), List.mem_of_getElem? (i := 1310) (by decide +kernel), List.mem_of_getElem? (i := 1311) (by decide +kernel)⟩
theorem lw_p51 : lw_okq (⟨"MirrorWorksModel", "refused", "(I)I"⟩, 59) := ⟨⟨by decide +kernel, by decide +kernel⟩, List.mem_of_getElem? (i := 1321) (by decide +kernel), List.mem_of_getElem? (i := 1597) (by decide +kernel), List.mem_of_getElem? (i := 1598) (by decide +kernel)⟩
theorem lw_p52 : lw_okq (⟨"MirrorWorksModel", "takeName", "()V"⟩, 59) := ⟨⟨by decide +kernel, by decide +kernel⟩, List.mem_of_getElem? (i := 1321) (by decide +kernel), List.mem_of_getElem? (i := 1601) (by decide +kernel), List.mem_of_getElem? (i := 1602) (by decide +kernel)⟩
theorem lw_p53 : lw_okq (⟨"MirrorWorksModel", "isPath", "()Z"⟩, 59) := ⟨⟨by decide +kernel, by decide +kernel⟩, List.mem_of_getElem? (i := 1321) (by decide +kernel), List.mem_of_getElem? (i := 1608) (by decide +kernel), List.mem_of_getElem? (i := 1609) (by decide +kernel)⟩
theorem lw_p54 : lw_okq (⟨"MirrorWorksModel", "find", "(II)I"⟩, 59) := ⟨⟨by decide +kernel, by decide +kernel⟩, List.mem_of_getElem? (i := 1321) (by decide +kernel), List.mem_of_getElem? (i := 1612) (by decide +kernel), List.mem_of_getElem? (i := 1613) (by decide +kernel)⟩
theorem lw_p55 : lw_okq (⟨"MirrorWorksModel", "orderName", "(II)I"⟩, 59) := ⟨⟨by decide +kernel, by decide +kernel⟩, List.mem_of_getElem? (i := 1321) (by decide +kernel), List.mem_of_getElem? (i := 1616) (by decide +kernel), List.mem_of_getElem? (i := 1617) (by decide +kernel)⟩
theorem lw_p56 : lw_okq (⟨"MirrorWorksModel", "pathByte", "(II)I"⟩, 59) := ⟨⟨by decide +kernel, by decide +kernel⟩, List.mem_of_getElem? (i := 1321) (by decide +kernel), List.mem_of_getElem? (i := 1620) (by decide +kernel), List.mem_of_getElem? (i := 1621) (by decide +kernel)⟩
theorem lw_p57 : lw_okq (⟨"MirrorWorksModel", "nameByte", "(II)I"⟩, 59) := ⟨⟨by decide +kernel, by decide +kernel⟩, List.mem_of_getElem? (i := 1321) (by decide +kernel), List.mem_of_getElem? (i := 1624) (by decide +kernel), List.mem_of_getElem? (i := 1625) (by decide +kernel)⟩
theorem lw_p58 : lw_okq (⟨"MirrorWorksModel", "hasDirectory", "()Z"⟩, 59) := ⟨⟨by decide +kernel, by decide +kernel⟩, List.mem_of_getElem? (i := 1321) (by decide +kernel), List.mem_of_getElem? (i := 1628) (by decide +kernel), List.mem_of_getElem? (i := 1629) (by decide +kernel)⟩
theorem lw_p59 : lw_okq (⟨"MirrorWorksModel", "throwing", "(ZZ)Z"⟩, 59) := ⟨⟨by decide +kernel, by decide +kernel⟩, List.mem_of_getElem? (i := 1321) (by decide +kernel), List.mem_of_getElem? (i := 1632) (by decide +kernel), List.mem_of_getElem? (i := 1633) (by decide +kernel)⟩
theorem lw_p60 : lw_okq (⟨"MirrorWorksModel", "move", "(II)V"⟩, 59) := ⟨⟨by decide +kernel, by decide +kernel⟩, List.mem_of_getElem? (i := 1321) (by decide +kernel), List.mem_of_getElem? (i := 1636) (by decide +kernel), List.mem_of_getElem? (i := 1637) (by decide +kernel)⟩
theorem lw_p61 : lw_okq (⟨"MirrorWorksModel", "treeOf", "(I)I"⟩, 59) := ⟨⟨by decide +kernel, by decide +kernel⟩, List.mem_of_getElem? (i := 1321) (by decide +kernel), List.mem_of_getElem? (i := 1640) (by decide +kernel), List.mem_of_getElem? (i := 1641) (by decide +kernel)⟩
theorem lw_p62 : lw_okq (⟨"MirrorWorksModel", "bytesOf", "(I)I"⟩, 59) := ⟨⟨by decide +kernel, by decide +kernel⟩, List.mem_of_getElem? (i := 1321) (by decide +kernel), List.mem_of_getElem? (i := 1653) (by decide +kernel), List.mem_of_getElem? (i := 1654) (by decide +kernel)⟩
theorem lw_p63 : lw_okq (⟨"MirrorWorksModel", "isBelow", "(I)Z"⟩, 59) := ⟨⟨by decide +kernel, by decide +kernel⟩, List.mem_of_getElem? (i := 1321) (by decide +kernel), List.mem_of_getElem? (i := 1669) (by decide +kernel), List.mem_of_getElem? (i := 1670) (by decide +kernel)⟩
def lw_privs_4 : List (MethodName × Nat) := [(⟨"MirrorWorks", "bringBack", "()I"⟩, 14), (⟨"MirrorWorks", "readNamedEntries", "()I"⟩, 14), (⟨"MirrorWorks", "showEntries", "()I"⟩, 14), (⟨"MirrorWorksModel", "refused", "(I)I"⟩, 59), (⟨"MirrorWorksModel", "takeName", "()V"⟩, 59), (⟨"MirrorWorksModel", "isPath", "()Z"⟩, 59), (⟨"MirrorWorksModel", "find", "(II)I"⟩, 59), (⟨"MirrorWorksModel", "orderName", "(II)I"⟩, 59), (⟨"MirrorWorksModel", "pathByte", "(II)I"⟩, 59), (⟨"MirrorWorksModel", "nameByte", "(II)I"⟩, 59), (⟨"MirrorWorksModel", "hasDirectory", "()Z"⟩, 59), (⟨"MirrorWorksModel", "throwing", "(ZZ)Z"⟩, 59), (⟨"MirrorWorksModel", "move", "(II)V"⟩, 59), (⟨"MirrorWorksModel", "treeOf", "(I)I"⟩, 59), (⟨"MirrorWorksModel", "bytesOf", "(I)I"⟩, 59), (⟨"MirrorWorksModel", "isBelow", "(I)Z"⟩, 59)]
theorem lw_r4 : ∀ q ∈ lw_privs_4, lw_okq q := List.forall_mem_cons.mpr ⟨lw_p48, List.forall_mem_cons.mpr ⟨lw_p49, List.forall_mem_cons.mpr ⟨lw_p50, List.forall_mem_cons.mpr ⟨lw_p51, List.forall_mem_cons.mpr ⟨lw_p52, List.forall_mem_cons.mpr ⟨lw_p53, List.forall_mem_cons.mpr ⟨lw_p54, List.forall_mem_cons.mpr ⟨lw_p55, List.forall_mem_cons.mpr ⟨lw_p56, List.forall_mem_cons.mpr ⟨lw_p57, List.forall_mem_cons.mpr ⟨lw_p58, List.forall_mem_cons.mpr ⟨lw_p59, List.forall_mem_cons.mpr ⟨lw_p60, List.forall_mem_cons.mpr ⟨lw_p61, List.forall_mem_cons.mpr ⟨lw_p62, List.forall_mem_cons.mpr ⟨lw_p63, fun _ h => absurd h List.not_mem_nil⟩⟩⟩⟩⟩⟩⟩⟩⟩⟩⟩⟩⟩⟩⟩⟩
theorem lw_p64 : lw_okq (⟨"MirrorWorksModel", "actNext", "()V"⟩, 59) := ⟨⟨by decide +kernel, by decide +kernel⟩, List.mem_of_getElem? (i := 1321) (by decide +kernel), List.mem_of_getElem? (i := 1677) (by decide +kernel), List.mem_of_getElem? (i := 1678) (by decide +kernel)⟩
theorem lw_p65 : lw_okq (⟨"MirrorWorksModel", "act", "(I)V"⟩, 59) := ⟨⟨by decide +kernel, by decide +kernel⟩, List.mem_of_getElem? (i := 1321) (by decide +kernel), List.mem_of_getElem? (i := 1681) (by decide +kernel), List.mem_of_getElem? (i := 1682) (by decide +kernel)⟩
theorem lw_p66 : lw_okq (⟨"MirrorWorksModel", "keep", "()V"⟩, 59) := ⟨⟨by decide +kernel, by decide +kernel⟩, List.mem_of_getElem? (i := 1321) (by decide +kernel), List.mem_of_getElem? (i := 1685) (by decide +kernel), List.mem_of_getElem? (i := 1686) (by decide +kernel)⟩
theorem lw_p67 : lw_okq (⟨"MirrorWorksModel", "rest", "()V"⟩, 59) := ⟨⟨by decide +kernel, by decide +kernel⟩, List.mem_of_getElem? (i := 1321) (by decide +kernel), List.mem_of_getElem? (i := 1689) (by decide +kernel), List.mem_of_getElem? (i := 1690) (by decide +kernel)⟩
theorem lw_p68 : lw_okq (⟨"MirrorWorksModel", "moveSlot", "(II)V"⟩, 59) := ⟨⟨by decide +kernel, by decide +kernel⟩, List.mem_of_getElem? (i := 1321) (by decide +kernel), List.mem_of_getElem? (i := 1693) (by decide +kernel), List.mem_of_getElem? (i := 1694) (by decide +kernel)⟩
theorem lw_p69 : lw_okq (⟨"MirrorWorksModel", "clearSlot", "(I)V"⟩, 59) := ⟨⟨by decide +kernel, by decide +kernel⟩, List.mem_of_getElem? (i := 1321) (by decide +kernel), List.mem_of_getElem? (i := 1697) (by decide +kernel), List.mem_of_getElem? (i := 1698) (by decide +kernel)⟩
theorem lw_p70 : lw_okq (⟨"MirrorWorksModel", "append", "(II)V"⟩, 59) := ⟨⟨by decide +kernel, by decide +kernel⟩, List.mem_of_getElem? (i := 1321) (by decide +kernel), List.mem_of_getElem? (i := 1701) (by decide +kernel), List.mem_of_getElem? (i := 1702) (by decide +kernel)⟩
theorem lw_p71 : lw_okq (⟨"MirrorWorksModel", "byteOf", "(II)I"⟩, 59) := ⟨⟨by decide +kernel, by decide +kernel⟩, List.mem_of_getElem? (i := 1321) (by decide +kernel), List.mem_of_getElem? (i := 1705) (by decide +kernel), List.mem_of_getElem? (i := 1706) (by decide +kernel)⟩
theorem lw_p72 : lw_okq (⟨"MirrorWorksModel", "fallBack", "()V"⟩, 59) := ⟨⟨by decide +kernel, by decide +kernel⟩, List.mem_of_getElem? (i := 1321) (by decide +kernel), List.mem_of_getElem? (i := 1713) (by decide +kernel), List.mem_of_getElem? (i := 1714) (by decide +kernel)⟩
theorem lw_p73 : lw_okq (⟨"MirrorWorksModel", "sessions", "()I"⟩, 59) := ⟨⟨by decide +kernel, by decide +kernel⟩, List.mem_of_getElem? (i := 1321) (by decide +kernel), List.mem_of_getElem? (i := 1721) (by decide +kernel), List.mem_of_getElem? (i := 1722) (by decide +kernel)⟩
theorem lw_p74 : lw_okq (⟨"MirrorWorksModel", "isTooEarly", "(I)Z"⟩, 59) := ⟨⟨by decide +kernel, by decide +kernel⟩, List.mem_of_getElem? (i := 1321) (by decide +kernel), List.mem_of_getElem? (i := 1725) (by decide +kernel), List.mem_of_getElem? (i := 1726) (by decide +kernel)⟩
theorem lw_p75 : lw_okq (⟨"MirrorWorksModel", "latest", "()I"⟩, 59) := ⟨⟨by decide +kernel, by decide +kernel⟩, List.mem_of_getElem? (i := 1321) (by decide +kernel), List.mem_of_getElem? (i := 1729) (by decide +kernel), List.mem_of_getElem? (i := 1730) (by decide +kernel)⟩
theorem lw_p76 : lw_okq (⟨"MirrorWorksModel", "beginSession", "(I)I"⟩, 59) := ⟨⟨by decide +kernel, by decide +kernel⟩, List.mem_of_getElem? (i := 1321) (by decide +kernel), List.mem_of_getElem? (i := 1733) (by decide +kernel), List.mem_of_getElem? (i := 1734) (by decide +kernel)⟩
theorem lw_p77 : lw_okq (⟨"MirrorWorksModel", "findTree", "(II)V"⟩, 59) := ⟨⟨by decide +kernel, by decide +kernel⟩, List.mem_of_getElem? (i := 1321) (by decide +kernel), List.mem_of_getElem? (i := 1737) (by decide +kernel), List.mem_of_getElem? (i := 1738) (by decide +kernel)⟩
theorem lw_p78 : lw_okq (⟨"MirrorWorksModel", "order", "(II)I"⟩, 59) := ⟨⟨by decide +kernel, by decide +kernel⟩, List.mem_of_getElem? (i := 1321) (by decide +kernel), List.mem_of_getElem? (i := 1741) (by decide +kernel), List.mem_of_getElem? (i := 1742) (by decide +kernel)⟩
theorem lw_p79 : lw_okq (⟨"MirrorWorksModel", "findChanges", "(II)V"⟩, 59) := ⟨⟨by decide +kernel, by decide +kernel⟩, List.mem_of_getElem? (i := 1321) (by decide +kernel), List.mem_of_getElem? (i := 1745) (by decide +kernel), List.mem_of_getElem? (i := 1746) (by decide +kernel)⟩
def lw_privs_5 : List (MethodName × Nat) := [(⟨"MirrorWorksModel", "actNext", "()V"⟩, 59), (⟨"MirrorWorksModel", "act", "(I)V"⟩, 59), (⟨"MirrorWorksModel", "keep", "()V"⟩, 59), (⟨"MirrorWorksModel", "rest", "()V"⟩, 59), (⟨"MirrorWorksModel", "moveSlot", "(II)V"⟩, 59), (⟨"MirrorWorksModel", "clearSlot", "(I)V"⟩, 59), (⟨"MirrorWorksModel", "append", "(II)V"⟩, 59), (⟨"MirrorWorksModel", "byteOf", "(II)I"⟩, 59), (⟨"MirrorWorksModel", "fallBack", "()V"⟩, 59), (⟨"MirrorWorksModel", "sessions", "()I"⟩, 59), (⟨"MirrorWorksModel", "isTooEarly", "(I)Z"⟩, 59), (⟨"MirrorWorksModel", "latest", "()I"⟩, 59), (⟨"MirrorWorksModel", "beginSession", "(I)I"⟩, 59), (⟨"MirrorWorksModel", "findTree", "(II)V"⟩, 59), (⟨"MirrorWorksModel", "order", "(II)I"⟩, 59), (⟨"MirrorWorksModel", "findChanges", "(II)V"⟩, 59)]
theorem lw_r5 : ∀ q ∈ lw_privs_5, lw_okq q := List.forall_mem_cons.mpr ⟨lw_p64, List.forall_mem_cons.mpr ⟨lw_p65, List.forall_mem_cons.mpr ⟨lw_p66, List.forall_mem_cons.mpr ⟨lw_p67, List.forall_mem_cons.mpr ⟨lw_p68, List.forall_mem_cons.mpr ⟨lw_p69, List.forall_mem_cons.mpr ⟨lw_p70, List.forall_mem_cons.mpr ⟨lw_p71, List.forall_mem_cons.mpr ⟨lw_p72, List.forall_mem_cons.mpr ⟨lw_p73, List.forall_mem_cons.mpr ⟨lw_p74, List.forall_mem_cons.mpr ⟨lw_p75, List.forall_mem_cons.mpr ⟨lw_p76, List.forall_mem_cons.mpr ⟨lw_p77, List.forall_mem_cons.mpr ⟨lw_p78, List.forall_mem_cons.mpr ⟨lw_p79, fun _ h => absurd h List.not_mem_nil⟩⟩⟩⟩⟩⟩⟩⟩⟩⟩⟩⟩⟩⟩⟩⟩
theorem lw_p80 : lw_okq (⟨"MirrorWorksModel", "meet", "(III)V"⟩, 59) := ⟨⟨by decide +kernel, by decide +kernel⟩, List.mem_of_getElem? (i := 1321) (by decide +kernel), List.mem_of_getElem? (i := 1749) (by decide +kernel), List.mem_of_getElem? (i := 1750) (by decide +kernel)⟩
theorem lw_p81 : lw_okq (⟨"MirrorWorksModel", "isOther", "(II)Z"⟩, 59) := ⟨⟨by decide +kernel, by decide +kernel⟩, List.mem_of_getElem? (i := 1321) (by decide +kernel), List.mem_of_getElem? (i := 1753) (by decide +kernel), List.mem_of_getElem? (i := 1754) (by decide +kernel)⟩
theorem lw_p82 : lw_okq (⟨"MirrorWorksModel", "isAlike", "(II)Z"⟩, 59) := ⟨⟨by decide +kernel, by decide +kernel⟩, List.mem_of_getElem? (i := 1321) (by decide +kernel), List.mem_of_getElem? (i := 1757) (by decide +kernel), List.mem_of_getElem? (i := 1758) (by decide +kernel)⟩
theorem lw_p83 : lw_okq (⟨"MirrorWorksModel", "planSession", "(I)V"⟩, 59) := ⟨⟨by decide +kernel, by decide +kernel⟩, List.mem_of_getElem? (i := 1321) (by decide +kernel), List.mem_of_getElem? (i := 1761) (by decide +kernel), List.mem_of_getElem? (i := 1762) (by decide +kernel)⟩
theorem lw_p84 : lw_okq (⟨"MirrorWorksModel", "startPlan", "()V"⟩, 59) := ⟨⟨by decide +kernel, by decide +kernel⟩, List.mem_of_getElem? (i := 1321) (by decide +kernel), List.mem_of_getElem? (i := 1765) (by decide +kernel), List.mem_of_getElem? (i := 1766) (by decide +kernel)⟩
theorem lw_p85 : lw_okq (⟨"MirrorWorksModel", "plan", "(III)V"⟩, 59) := ⟨⟨by decide +kernel, by decide +kernel⟩, List.mem_of_getElem? (i := 1321) (by decide +kernel), List.mem_of_getElem? (i := 1769) (by decide +kernel), List.mem_of_getElem? (i := 1770) (by decide +kernel)⟩
theorem lw_p86 : lw_okq (⟨"MirrorWorksModel", "meaning", "(II)I"⟩, 59) := ⟨⟨by decide +kernel, by decide +kernel⟩, List.mem_of_getElem? (i := 1321) (by decide +kernel), List.mem_of_getElem? (i := 1777) (by decide +kernel), List.mem_of_getElem? (i := 1778) (by decide +kernel)⟩
theorem lw_p87 : lw_okq (⟨"MirrorWorksModel", "digits", "(II)I"⟩, 59) := ⟨⟨by decide +kernel, by decide +kernel⟩, List.mem_of_getElem? (i := 1321) (by decide +kernel), List.mem_of_getElem? (i := 1781) (by decide +kernel), List.mem_of_getElem? (i := 1782) (by decide +kernel)⟩
theorem lw_p88 : lw_okq (⟨"MirrorWorksModel", "number", "(II)J"⟩, 59) := ⟨⟨by decide +kernel, by decide +kernel⟩, List.mem_of_getElem? (i := 1321) (by decide +kernel), List.mem_of_getElem? (i := 1788) (by decide +kernel), List.mem_of_getElem? (i := 1789) (by decide +kernel)⟩
theorem lw_p89 : lw_okq (⟨"MirrorWorksModel", "notAbove", "(J)I"⟩, 59) := ⟨⟨by decide +kernel, by decide +kernel⟩, List.mem_of_getElem? (i := 1321) (by decide +kernel), List.mem_of_getElem? (i := 1794) (by decide +kernel), List.mem_of_getElem? (i := 1795) (by decide +kernel)⟩
theorem lw_p90 : lw_okq (⟨"MirrorWorksModel", "sessionOf", "(I)I"⟩, 59) := ⟨⟨by decide +kernel, by decide +kernel⟩, List.mem_of_getElem? (i := 1321) (by decide +kernel), List.mem_of_getElem? (i := 1798) (by decide +kernel), List.mem_of_getElem? (i := 1799) (by decide +kernel)⟩
theorem lw_p91 : lw_okq (⟨"MirrorWorksModel", "pruneTo", "(I)I"⟩, 59) := ⟨⟨by decide +kernel, by decide +kernel⟩, List.mem_of_getElem? (i := 1321) (by decide +kernel), List.mem_of_getElem? (i := 1807) (by decide +kernel), List.mem_of_getElem? (i := 1808) (by decide +kernel)⟩
theorem lw_p92 : lw_okq (⟨"MirrorWorksModel", "planMarks", "(II)V"⟩, 59) := ⟨⟨by decide +kernel, by decide +kernel⟩, List.mem_of_getElem? (i := 1321) (by decide +kernel), List.mem_of_getElem? (i := 1811) (by decide +kernel), List.mem_of_getElem? (i := 1812) (by decide +kernel)⟩
theorem lw_p93 : lw_okq (⟨"MirrorWorksModel", "planIncrements", "(I)V"⟩, 59) := ⟨⟨by decide +kernel, by decide +kernel⟩, List.mem_of_getElem? (i := 1321) (by decide +kernel), List.mem_of_getElem? (i := 1815) (by decide +kernel), List.mem_of_getElem? (i := 1816) (by decide +kernel)⟩
theorem lw_p94 : lw_okq (⟨"MirrorWorksModel", "recoverAll", "()I"⟩, 59) := ⟨⟨by decide +kernel, by decide +kernel⟩, List.mem_of_getElem? (i := 1321) (by decide +kernel), List.mem_of_getElem? (i := 1823) (by decide +kernel), List.mem_of_getElem? (i := 1824) (by decide +kernel)⟩
theorem lw_p95 : lw_okq (⟨"MirrorWorksModel", "planUndo", "()V"⟩, 59) := ⟨⟨by decide +kernel, by decide +kernel⟩, List.mem_of_getElem? (i := 1321) (by decide +kernel), List.mem_of_getElem? (i := 1827) (by decide +kernel), List.mem_of_getElem? (i := 1828) (by decide +kernel)⟩
def lw_privs_6 : List (MethodName × Nat) := [(⟨"MirrorWorksModel", "meet", "(III)V"⟩, 59), (⟨"MirrorWorksModel", "isOther", "(II)Z"⟩, 59), (⟨"MirrorWorksModel", "isAlike", "(II)Z"⟩, 59), (⟨"MirrorWorksModel", "planSession", "(I)V"⟩, 59), (⟨"MirrorWorksModel", "startPlan", "()V"⟩, 59), (⟨"MirrorWorksModel", "plan", "(III)V"⟩, 59), (⟨"MirrorWorksModel", "meaning", "(II)I"⟩, 59), (⟨"MirrorWorksModel", "digits", "(II)I"⟩, 59), (⟨"MirrorWorksModel", "number", "(II)J"⟩, 59), (⟨"MirrorWorksModel", "notAbove", "(J)I"⟩, 59), (⟨"MirrorWorksModel", "sessionOf", "(I)I"⟩, 59), (⟨"MirrorWorksModel", "pruneTo", "(I)I"⟩, 59), (⟨"MirrorWorksModel", "planMarks", "(II)V"⟩, 59), (⟨"MirrorWorksModel", "planIncrements", "(I)V"⟩, 59), (⟨"MirrorWorksModel", "recoverAll", "()I"⟩, 59), (⟨"MirrorWorksModel", "planUndo", "()V"⟩, 59)]
theorem lw_r6 : ∀ q ∈ lw_privs_6, lw_okq q := List.forall_mem_cons.mpr ⟨lw_p80, List.forall_mem_cons.mpr ⟨lw_p81, List.forall_mem_cons.mpr ⟨lw_p82, List.forall_mem_cons.mpr ⟨lw_p83, List.forall_mem_cons.mpr ⟨lw_p84, List.forall_mem_cons.mpr ⟨lw_p85, List.forall_mem_cons.mpr ⟨lw_p86, List.forall_mem_cons.mpr ⟨lw_p87, List.forall_mem_cons.mpr ⟨lw_p88, List.forall_mem_cons.mpr ⟨lw_p89, List.forall_mem_cons.mpr ⟨lw_p90, List.forall_mem_cons.mpr ⟨lw_p91, List.forall_mem_cons.mpr ⟨lw_p92, List.forall_mem_cons.mpr ⟨lw_p93, List.forall_mem_cons.mpr ⟨lw_p94, List.forall_mem_cons.mpr ⟨lw_p95, fun _ h => absurd h List.not_mem_nil⟩⟩⟩⟩⟩⟩⟩⟩⟩⟩⟩⟩⟩⟩⟩⟩
theorem lw_p96 : lw_okq (⟨"MirrorWorksModel", "planFinish", "()V"⟩, 59) := ⟨⟨by decide +kernel, by decide +kernel⟩, List.mem_of_getElem? (i := 1321) (by decide +kernel), List.mem_of_getElem? (i := 1831) (by decide +kernel), List.mem_of_getElem? (i := 1832) (by decide +kernel)⟩
theorem lw_p97 : lw_okq (⟨"MirrorWorksModel", "take", "(IZ)V"⟩, 59) := ⟨⟨by decide +kernel, by decide +kernel⟩, List.mem_of_getElem? (i := 1321) (by decide +kernel), List.mem_of_getElem? (i := 1839) (by decide +kernel), List.mem_of_getElem? (i := 1840) (by decide +kernel)⟩
theorem lw_p98 : lw_okq (⟨"MirrorWorksModel", "entryOf", "(II)I"⟩, 59) := ⟨⟨by decide +kernel, by decide +kernel⟩, List.mem_of_getElem? (i := 1321) (by decide +kernel), List.mem_of_getElem? (i := 1852) (by decide +kernel), List.mem_of_getElem? (i := 1853) (by decide +kernel)⟩
theorem lw_p99 : lw_okq (⟨"MirrorWorksModel", "block", "(III)V"⟩, 59) := ⟨⟨by decide +kernel, by decide +kernel⟩, List.mem_of_getElem? (i := 1321) (by decide +kernel), List.mem_of_getElem? (i := 1864) (by decide +kernel), List.mem_of_getElem? (i := 1865) (by decide +kernel)⟩
theorem lw_p100 : lw_okq (⟨"MirrorWorksModel", "padded", "(III)I"⟩, 59) := ⟨⟨by decide +kernel, by decide +kernel⟩, List.mem_of_getElem? (i := 1321) (by decide +kernel), List.mem_of_getElem? (i := 1868) (by decide +kernel), List.mem_of_getElem? (i := 1869) (by decide +kernel)⟩
theorem lw_p101 : lw_okq (⟨"MirrorWorksModel", "marks", "([ZI)I"⟩, 59) := ⟨⟨by decide +kernel, by decide +kernel⟩, List.mem_of_getElem? (i := 1321) (by decide +kernel), List.mem_of_getElem? (i := 1883) (by decide +kernel), List.mem_of_getElem? (i := 1884) (by decide +kernel)⟩
theorem lw_p102 : lw_okq (⟨"MirrorWorksModel", "findWords", "()V"⟩, 59) := ⟨⟨by decide +kernel, by decide +kernel⟩, List.mem_of_getElem? (i := 1321) (by decide +kernel), List.mem_of_getElem? (i := 1895) (by decide +kernel), List.mem_of_getElem? (i := 1896) (by decide +kernel)⟩
theorem lw_p103 : lw_okq (⟨"MirrorWorksModel", "word", "(I)J"⟩, 59) := ⟨⟨by decide +kernel, by decide +kernel⟩, List.mem_of_getElem? (i := 1321) (by decide +kernel), List.mem_of_getElem? (i := 1899) (by decide +kernel), List.mem_of_getElem? (i := 1900) (by decide +kernel)⟩
theorem lw_p104 : lw_okq (⟨"MirrorWorksModel", "run", "(J)I"⟩, 59) := ⟨⟨by decide +kernel, by decide +kernel⟩, List.mem_of_getElem? (i := 1321) (by decide +kernel), List.mem_of_getElem? (i := 1903) (by decide +kernel), List.mem_of_getElem? (i := 1904) (by decide +kernel)⟩
theorem lw_p105 : lw_okq (⟨"MirrorWorksModel", "backup", "()I"⟩, 59) := ⟨⟨by decide +kernel, by decide +kernel⟩, List.mem_of_getElem? (i := 1321) (by decide +kernel), List.mem_of_getElem? (i := 1908) (by decide +kernel), List.mem_of_getElem? (i := 1909) (by decide +kernel)⟩
theorem lw_p106 : lw_okq (⟨"MirrorWorksModel", "stepAll", "()V"⟩, 59) := ⟨⟨by decide +kernel, by decide +kernel⟩, List.mem_of_getElem? (i := 1321) (by decide +kernel), List.mem_of_getElem? (i := 1912) (by decide +kernel), List.mem_of_getElem? (i := 1913) (by decide +kernel)⟩
theorem lw_p107 : lw_okq (⟨"MirrorWorksModel", "sayLine", "(JI)V"⟩, 59) := ⟨⟨by decide +kernel, by decide +kernel⟩, List.mem_of_getElem? (i := 1321) (by decide +kernel), List.mem_of_getElem? (i := 1917) (by decide +kernel), List.mem_of_getElem? (i := 1918) (by decide +kernel)⟩
theorem lw_p108 : lw_okq (⟨"MirrorWorksModel", "sayWord", "(J)V"⟩, 59) := ⟨⟨by decide +kernel, by decide +kernel⟩, List.mem_of_getElem? (i := 1321) (by decide +kernel), List.mem_of_getElem? (i := 1921) (by decide +kernel), List.mem_of_getElem? (i := 1922) (by decide +kernel)⟩
theorem lw_p109 : lw_okq (⟨"MirrorWorksModel", "say", "(I)V"⟩, 59) := ⟨⟨by decide +kernel, by decide +kernel⟩, List.mem_of_getElem? (i := 1321) (by decide +kernel), List.mem_of_getElem? (i := 1926) (by decide +kernel), List.mem_of_getElem? (i := 1927) (by decide +kernel)⟩
theorem lw_p110 : lw_okq (⟨"MirrorWorksModel", "sayNumber", "(I)V"⟩, 59) := ⟨⟨by decide +kernel, by decide +kernel⟩, List.mem_of_getElem? (i := 1321) (by decide +kernel), List.mem_of_getElem? (i := 1930) (by decide +kernel), List.mem_of_getElem? (i := 1931) (by decide +kernel)⟩
theorem lw_p111 : lw_okq (⟨"MirrorWorksModel", "commandPrune", "(I)I"⟩, 59) := ⟨⟨by decide +kernel, by decide +kernel⟩, List.mem_of_getElem? (i := 1321) (by decide +kernel), List.mem_of_getElem? (i := 1941) (by decide +kernel), List.mem_of_getElem? (i := 1942) (by decide +kernel)⟩
def lw_privs_7 : List (MethodName × Nat) := [(⟨"MirrorWorksModel", "planFinish", "()V"⟩, 59), (⟨"MirrorWorksModel", "take", "(IZ)V"⟩, 59), (⟨"MirrorWorksModel", "entryOf", "(II)I"⟩, 59), (⟨"MirrorWorksModel", "block", "(III)V"⟩, 59), (⟨"MirrorWorksModel", "padded", "(III)I"⟩, 59), (⟨"MirrorWorksModel", "marks", "([ZI)I"⟩, 59), (⟨"MirrorWorksModel", "findWords", "()V"⟩, 59), (⟨"MirrorWorksModel", "word", "(I)J"⟩, 59), (⟨"MirrorWorksModel", "run", "(J)I"⟩, 59), (⟨"MirrorWorksModel", "backup", "()I"⟩, 59), (⟨"MirrorWorksModel", "stepAll", "()V"⟩, 59), (⟨"MirrorWorksModel", "sayLine", "(JI)V"⟩, 59), (⟨"MirrorWorksModel", "sayWord", "(J)V"⟩, 59), (⟨"MirrorWorksModel", "say", "(I)V"⟩, 59), (⟨"MirrorWorksModel", "sayNumber", "(I)V"⟩, 59), (⟨"MirrorWorksModel", "commandPrune", "(I)I"⟩, 59)]
theorem lw_r7 : ∀ q ∈ lw_privs_7, lw_okq q := List.forall_mem_cons.mpr ⟨lw_p96, List.forall_mem_cons.mpr ⟨lw_p97, List.forall_mem_cons.mpr ⟨lw_p98, List.forall_mem_cons.mpr ⟨lw_p99, List.forall_mem_cons.mpr ⟨lw_p100, List.forall_mem_cons.mpr ⟨lw_p101, List.forall_mem_cons.mpr ⟨lw_p102, List.forall_mem_cons.mpr ⟨lw_p103, List.forall_mem_cons.mpr ⟨lw_p104, List.forall_mem_cons.mpr ⟨lw_p105, List.forall_mem_cons.mpr ⟨lw_p106, List.forall_mem_cons.mpr ⟨lw_p107, List.forall_mem_cons.mpr ⟨lw_p108, List.forall_mem_cons.mpr ⟨lw_p109, List.forall_mem_cons.mpr ⟨lw_p110, List.forall_mem_cons.mpr ⟨lw_p111, fun _ h => absurd h List.not_mem_nil⟩⟩⟩⟩⟩⟩⟩⟩⟩⟩⟩⟩⟩⟩⟩⟩
theorem lw_p112 : lw_okq (⟨"MirrorWorksModel", "commandVerify", "(I)I"⟩, 59) := ⟨⟨by decide +kernel, by decide +kernel⟩, List.mem_of_getElem? (i := 1321) (by decide +kernel), List.mem_of_getElem? (i := 1947) (by decide +kernel), List.mem_of_getElem? (i := 1948) (by decide +kernel)⟩
theorem lw_p113 : lw_okq (⟨"MirrorWorksModel", "check", "()I"⟩, 59) := ⟨⟨by decide +kernel, by decide +kernel⟩, List.mem_of_getElem? (i := 1321) (by decide +kernel), List.mem_of_getElem? (i := 1953) (by decide +kernel), List.mem_of_getElem? (i := 1954) (by decide +kernel)⟩
theorem lw_p114 : lw_okq (⟨"MirrorWorksModel", "commandRestore", "(I)I"⟩, 59) := ⟨⟨by decide +kernel, by decide +kernel⟩, List.mem_of_getElem? (i := 1321) (by decide +kernel), List.mem_of_getElem? (i := 1960) (by decide +kernel), List.mem_of_getElem? (i := 1961) (by decide +kernel)⟩
theorem lw_p115 : lw_okq (⟨"MirrorWorksModel", "chosenTree", "(I)I"⟩, 59) := ⟨⟨by decide +kernel, by decide +kernel⟩, List.mem_of_getElem? (i := 1321) (by decide +kernel), List.mem_of_getElem? (i := 1964) (by decide +kernel), List.mem_of_getElem? (i := 1965) (by decide +kernel)⟩
theorem lw_p116 : lw_okq (⟨"MirrorWorksModel", "isNamed", "(I)Z"⟩, 59) := ⟨⟨by decide +kernel, by decide +kernel⟩, List.mem_of_getElem? (i := 1321) (by decide +kernel), List.mem_of_getElem? (i := 1968) (by decide +kernel), List.mem_of_getElem? (i := 1969) (by decide +kernel)⟩
theorem lw_p117 : lw_okq (⟨"MirrorWorksModel", "commandList", "(I)I"⟩, 59) := ⟨⟨by decide +kernel, by decide +kernel⟩, List.mem_of_getElem? (i := 1321) (by decide +kernel), List.mem_of_getElem? (i := 1976) (by decide +kernel), List.mem_of_getElem? (i := 1977) (by decide +kernel)⟩
theorem lw_p118 : lw_okq (⟨"MirrorWorksModel", "sayPath", "(I)V"⟩, 59) := ⟨⟨by decide +kernel, by decide +kernel⟩, List.mem_of_getElem? (i := 1321) (by decide +kernel), List.mem_of_getElem? (i := 1980) (by decide +kernel), List.mem_of_getElem? (i := 1981) (by decide +kernel)⟩
theorem lw_p119 : lw_okq (⟨"MirrorWorksModel", "commandChanges", "(II)I"⟩, 59) := ⟨⟨by decide +kernel, by decide +kernel⟩, List.mem_of_getElem? (i := 1321) (by decide +kernel), List.mem_of_getElem? (i := 1984) (by decide +kernel), List.mem_of_getElem? (i := 1985) (by decide +kernel)⟩
theorem lw_p120 : lw_okq (⟨"MirrorWorksModel", "sayChange", "(JI)V"⟩, 59) := ⟨⟨by decide +kernel, by decide +kernel⟩, List.mem_of_getElem? (i := 1321) (by decide +kernel), List.mem_of_getElem? (i := 1988) (by decide +kernel), List.mem_of_getElem? (i := 1989) (by decide +kernel)⟩
theorem lw_p121 : lw_okq (⟨"MirrorWorksModel", "commandSessions", "()I"⟩, 59) := ⟨⟨by decide +kernel, by decide +kernel⟩, List.mem_of_getElem? (i := 1321) (by decide +kernel), List.mem_of_getElem? (i := 1992) (by decide +kernel), List.mem_of_getElem? (i := 1993) (by decide +kernel)⟩
def lw_privs_8 : List (MethodName × Nat) := [(⟨"MirrorWorksModel", "commandVerify", "(I)I"⟩, 59), (⟨"MirrorWorksModel", "check", "()I"⟩, 59), (⟨"MirrorWorksModel", "commandRestore", "(I)I"⟩, 59), (⟨"MirrorWorksModel", "chosenTree", "(I)I"⟩, 59), (⟨"MirrorWorksModel", "isNamed", "(I)Z"⟩, 59), (⟨"MirrorWorksModel", "commandList", "(I)I"⟩, 59), (⟨"MirrorWorksModel", "sayPath", "(I)V"⟩, 59), (⟨"MirrorWorksModel", "commandChanges", "(II)I"⟩, 59), (⟨"MirrorWorksModel", "sayChange", "(JI)V"⟩, 59), (⟨"MirrorWorksModel", "commandSessions", "()I"⟩, 59)]
theorem lw_r8 : ∀ q ∈ lw_privs_8, lw_okq q := List.forall_mem_cons.mpr ⟨lw_p112, List.forall_mem_cons.mpr ⟨lw_p113, List.forall_mem_cons.mpr ⟨lw_p114, List.forall_mem_cons.mpr ⟨lw_p115, List.forall_mem_cons.mpr ⟨lw_p116, List.forall_mem_cons.mpr ⟨lw_p117, List.forall_mem_cons.mpr ⟨lw_p118, List.forall_mem_cons.mpr ⟨lw_p119, List.forall_mem_cons.mpr ⟨lw_p120, List.forall_mem_cons.mpr ⟨lw_p121, fun _ h => absurd h List.not_mem_nil⟩⟩⟩⟩⟩⟩⟩⟩⟩⟩
def lw_privs : List (MethodName × Nat) := lw_privs_1 ++ (lw_privs_2 ++ (lw_privs_3 ++ (lw_privs_4 ++ (lw_privs_5 ++ (lw_privs_6 ++ (lw_privs_7 ++ (lw_privs_8)))))))
def lw_tbl : List Cond := k2_sels lw_privs ++ tables_1
theorem lw_privs_ok : ∀ q ∈ lw_privs, lw_okq q := by
  show ∀ q ∈ lw_privs_1 ++ (lw_privs_2 ++ (lw_privs_3 ++ (lw_privs_4 ++ (lw_privs_5 ++ (lw_privs_6 ++ (lw_privs_7 ++ (lw_privs_8))))))), lw_okq q
  exact List.forall_mem_append.mpr ⟨lw_r1, List.forall_mem_append.mpr ⟨lw_r2, List.forall_mem_append.mpr ⟨lw_r3, List.forall_mem_append.mpr ⟨lw_r4, List.forall_mem_append.mpr ⟨lw_r5, List.forall_mem_append.mpr ⟨lw_r6, List.forall_mem_append.mpr ⟨lw_r7, lw_r8⟩⟩⟩⟩⟩⟩⟩
-- ===== laws and names, as TURN printed them =====
/-! ===== BEGIN words of one list among another's, by their places ===== -/
theorem goodIn_r {big : List Cond} (ws : List Cond) (ps : List Nat) (hp : ws = ps.filterMap (fun i => big[i]?)) (h : ws.all goodWord = true) : GoodIn big ws := by
  intro w hw
  have h1 := List.all_eq_true.mp h w hw
  rw [hp] at hw
  obtain ⟨i, -, hi⟩ := List.mem_filterMap.mp hw
  have hm : w ∈ big := by first | exact List.mem_of_getElem? hi | exact List.getElem?_mem hi
  exact ⟨hm, good_of_word h1⟩
theorem goodIn_app {big a b : List Cond} (ha : GoodIn big a) (hb : GoodIn big b) : GoodIn big (a ++ b) := fun w h => (List.mem_append.mp h).elim (ha w) (hb w)
theorem goodIn_ca {big a b : List Cond} {c : Cond} (ha : GoodIn big (c :: a)) (hb : GoodIn big b) : GoodIn big (c :: (a ++ b)) := fun w h => (List.mem_cons.mp h).elim (fun e => ha w (List.mem_cons.mpr (Or.inl e))) (fun h => (List.mem_append.mp h).elim (fun h => ha w (List.mem_cons.mpr (Or.inr h))) (hb w))
theorem goodIn_sub {big ws : List Cond} (hm : ∀ w ∈ ws, w ∈ big) (h : ws.all goodWord = true) : GoodIn big ws := fun w hw => ⟨hm w hw, good_of_word (List.all_eq_true.mp h w hw)⟩
/-! ===== END ===== -/

/-! ===== BEGIN exceptions that leave a method, and their catching by the caller (launches without stack traces) ===== -/
section VXA
/-! The laws vx_back, vx_callV, vx_callS, vx_callSW, vx_throw0, vx_throwS follow proofs of the library, with one case more: JvmDerived/Free/Laws.lean (Back.of_free), Shelf42/LK1.lean (callV, callS), Shelf/KitTraced.lean (throwNew0V, throwNewS). -/
/-- where a method has thrown q: the class by its name, the cell, what was written, the world -/
def vx_T (XC : String → State → State → Prop) (st : State) (q : Addr) (t : State) (mc ms : Nat) (free : Addr → Prop) : Prop :=
  ∃ (E : String) (ce : Cell) (L : List Loc), XC E st t ∧ t.heap[q]? = some ce ∧ ce.vm = .none ∧ st.vm.findClass E = some ce.cls ∧ st.WarmedH t.vm ∧ st.sameButNew ({ t with vm := st.vm } : State) L mc ms ∧ ∀ z ∈ L, free z.base
def vx_Q (Qc : Array Value → State → Outcome → State → Prop) (XC : String → State → State → Prop) (mc ms : Nat) (free : Addr → Prop) : Array Value → State → Outcome → State → Prop := fun a st o t =>
  (Qc a st o t ∧ ∃ L, FrameEnd st o t L mc ms ∧ ∀ q ∈ L, free q.base) ∨ ∃ q, o = .threw q ∧ vx_T XC st q t mc ms free
/-- a callee that returns or throws -/
def vx_Met (l : Launch) (y : MethodName) (ws : List Cond) (rm : Room) (Pc : Array Value → State → Prop) (Qc : Array Value → State → Outcome → State → Prop) (XC : String → State → State → Prop) (mc ms : Nat) (free : Addr → Prop) : Prop :=
  MetFree l y (headSpec ws rm) Pc (fun _ _ _ _ _ => True) (vx_Q Qc XC mc ms free)
def vx_Post (XC : String → State → State → Prop) (mc ms : Nat) (free : Addr → Prop) : Pt → Array Value → Addr → Pt → Prop := fun A a q B =>
  ∃ (g : JFrame) (mk : MethodId) (t : State) (L : List Loc) (E : String) (ce : Cell), B.U.heap = t.heap ∧ B.U.vm = t.vm ∧ XC E (A.U.calling g mk a) t ∧ t.heap[q]? = some ce ∧ ce.vm = .none ∧ A.U.vm.findClass E = some ce.cls ∧ B.locs = A.locs ++ L ∧ (∀ z ∈ L, free z.base) ∧ B.cells = A.cells + mc ∧ B.slots = A.slots + ms
def vx_Back (l : Launch) (R : Room) (p : Program) (e : Env) (below : List Frame) (s : State) (sargs : Array Value) (y : MethodName) (len W9 : Nat)
    (Pre : Pt → Array Value → Prop) (Post : Pt → Array Value → Option Value → Pt → Prop) (PostX : Pt → Array Value → Addr → Pt → Prop) : Prop :=
  ∀ (m : MethodId) (meth : Method) (c : Code) (A : Pt) (g : JFrame) (ig : Instr) (mk : MethodId) (a : Array Value),
    Stand p l e R s m sargs below meth c A.U A.locs A.cells A.slots → g.method = m → g.locals.size = c.maxLocals → decode c.code g.pc = .ok (ig, len) →
    2 * g.monitorRoom + (g.stack.map fun v => v.category).sum ≤ W9 → A.U.methodNamed? y = some mk → Pre A a →
    (∃ (v : Option Value) (B : Pt), Stand p l e R s m sargs below meth c B.U B.locs B.cells B.slots ∧ Post A a v B ∧
      Steps p.tables e below (doInvoke e (A.U.setTop g) [] mk a).1 (B.U.setTop { g with pc := g.pc + len, stack := v.toList ++ g.stack })) ∨
    (∃ (q : Addr) (B : Pt), Stand p l e R s m sargs below meth c B.U B.locs B.cells B.slots ∧ PostX A a q B ∧
      Steps p.tables e below (doInvoke e (A.U.setTop g) [] mk a).1 ((B.U.setTop g).pushFrame (.throwing q)))
section Payer
variable {l : Launch} {R : Room} {p : Program} {e : Env} {below : List Frame} {s : State} {sargs : Array Value} {y : MethodName} {len W9 : Nat}
theorem vx_back {ws : List Cond} {rm : Room} {Pc : Array Value → State → Prop} {Qc : Array Value → State → Outcome → State → Prop} {XC : String → State → State → Prop} {mc ms : Nat} {free : Addr → Prop} {bytes : ByteArray} {maxL : Nat} {ret : Option FieldType}
    (hM : vx_Met l y ws rm Pc Qc XC mc ms free) (hblind : FrameBlind Pc) (hrc : rm.cells = mc) (hrs : rm.slots = ms)
    (hframes : rm.frames + 1 ≤ R.frames) (hlocals : W9 + (maxL + 11) + rm.locals ≤ R.locals)
    (hws : ∀ w ∈ ws, ∀ a' U, s.WarmedH U.vm → w.before a' U = true) (hcode : Cond.code y bytes maxL ret ∈ ws) (hinit : ∀ a' U, s.WarmedH U.vm → (Cond.initialized y.cls).before a' U = true) :
    vx_Back l R p e below s sargs y len W9 (PreOf R mc ms Pc) (PostOf Qc mc ms free) (vx_Post XC mc ms free) := by
  intro m meth c A g ig mk a X hg hsize hdg hW hn hp
  have h1 : (headSpec ws rm).pre.before a A.U = true := atoms_intro fun w hw => hws w hw _ _ X.warmed
  have h2 : (Cond.code y bytes maxL ret).before a A.U = true := hws _ hcode _ _ X.warmed
  have h3 : (Cond.initialized y.cls).before a A.U = true := hinit _ _ X.warmed
  have h4 : A.cells + (headSpec ws rm).room.cells ≤ R.cells := by rw [show (headSpec ws rm).room.cells = mc from hrc]; exact hp.1
  have h5 : A.slots + (headSpec ws rm).room.slots ≤ R.slots := by rw [show (headSpec ws rm).room.slots = ms from hrs]; exact hp.2.1
  have hPc : Pc a (A.U.calling g mk a) := hblind _ _ _ _ hp.2.2
  obtain ⟨U, Ls, c0, s0⟩ := A
  dsimp only [Pt.U, Pt.locs, Pt.cells, Pt.slots] at h1 h2 h3 h4 h5 X hn hPc ⊢
  obtain ⟨methY, cY, hmY, hcY, -, hlY, -, -, -, -⟩ := Cond.code_spec hn h2
  obtain ⟨kY, hkY, -⟩ := className_of_methodNamed hn
  have hinitY : kY.init = .initialized := Cond.initialized_spec (findClass_of_methodNamed hn) hkY h3
  have h : At U g.method c below := by rw [hg]; exact X.here
  have hlocals9 : W9 + (maxL + 11) + (headSpec ws rm).room.locals ≤ R.locals := hlocals
  have happ : (headSpec ws rm).appliesLoose y e.platform (U.calling g mk a) = true :=
    Spec.appliesLoose_calling (g := g) h hdg hn hkY hinitY
      (X.room_calling (g := g) (R' := (headSpec ws rm).room) hsize hmY hcY hframes (by rw [hlY]; omega) h4 h5) h1
  obtain ⟨mid, hmid⟩ := h.above
  have hfr : (U.setTop g).frames = (.java g :: mid) ++ below := by rw [State.frames_setTop' g h.top, hmid]; rfl
  obtain ⟨o, s₂, hsteps, -, hend, hq⟩ := Steps.callFree hM p X.admits X.cas X.clock (acts := []) hfr happ hPc trivial
  have hq' : vx_Q Qc XC mc ms free a (U.calling g mk a) o s₂ := hq
  rw [State.frames_setTop' g h.top] at hend
  obtain ⟨g₀, hg0⟩ := Option.isSome_iff_exists.mp h.top
  obtain ⟨r, hr⟩ := State.topJava?_eq_some.mp hg0
  have hr' : (({ U with heap := s₂.heap, slotsUsed := s₂.slotsUsed } : State).setVm s₂.vm).frames = .java g₀ :: r := hr
  rcases hq' with ⟨hqc, L, hfe, hL⟩ | ⟨q, rfl, E, ce, L, hx, hce, hcv, hcl, hW₂, hsm, hL⟩
  · obtain ⟨⟨v, rfl⟩, hW₂, e2, q2, q3, q4, q5, q6⟩ := id hfe
    have e3 : s₂ = ({ (U.calling g mk a).setFrames s₂.frames with heap := s₂.heap, slotsUsed := s₂.slotsUsed } : State).setVm s₂.vm := by
      have : s₂ = ({ s₂ with vm := (U.calling g mk a).vm } : State).setVm s₂.vm := rfl
      rw [e2] at this
      exact this
    obtain ⟨c₂, i₂, len₂, hc₂, hd₂, hf₂⟩ := hend
    have hW' : U.WarmedH s₂.vm := hW₂
    have hcc : c₂ = c := by
      have h1 : s₂.code? g.method = U.code? g.method := by
        rw [State.code?_eq, State.code?_eq, hW'.alike.method?]
      exact Option.some.inj (hc₂.symm.trans (h1.trans h.code))
    subst hcc
    have hlen : len₂ = len := by rw [hdg] at hd₂; cases hd₂; rfl
    subst hlen
    have hs₂ : s₂ = (({ U with heap := s₂.heap, slotsUsed := s₂.slotsUsed } : State).setVm s₂.vm).setTop { g with pc := g.pc + len₂, stack := v.toList ++ g.stack } := by
      refine e3.trans ?_
      rw [hf₂, State.calling_eq h.top, State.setFrames_setFrames, State.setTop_of_frames _ hr', hr]
      rfl
    have hsame : U.sameButNew ({ U with heap := s₂.heap, slotsUsed := s₂.slotsUsed } : State) L mc ms := by
      refine ⟨?_, q2, q3, q4, q5, q6⟩
      obtain ⟨t, ht, -⟩ := State.frames_cons hr
      show ({ U with heap := s₂.heap, slotsUsed := s₂.slotsUsed } : State) = { U.setFrames U.frames with heap := s₂.heap, slotsUsed := s₂.slotsUsed }
      rw [State.setFrames_self ht]
    subst hg
    refine Or.inl ⟨v, ⟨(({ U with heap := s₂.heap, slotsUsed := s₂.slotsUsed } : State).setVm s₂.vm), Ls ++ L, c0 + mc, s0 + ms⟩,
      ⟨X.admits, X.cas, X.clock, X.frames, X.room, X.hears, X.method, X.code, (X.here.setHeapUsed s₂.heap s₂.slotsUsed).setVm hW'.alike, X.tail, State.WarmedH.trans X.warmed hW', X.limits, X.bytes, X.same.trans (hsame.setVm s.vm)⟩,
      ⟨g, mk, s₂, L, rfl, rfl, hqc, rfl, hL, rfl, rfl⟩, ?_⟩
    show Steps p.tables e below _ ((({ U with heap := s₂.heap, slotsUsed := s₂.slotsUsed } : State).setVm s₂.vm).setTop { g with pc := g.pc + len₂, stack := v.toList ++ g.stack })
    rw [← hs₂]
    exact hsteps
  · obtain ⟨e2, q2, q3, q4, q5, q6⟩ := id hsm
    have e3 : s₂ = ({ (U.calling g mk a).setFrames s₂.frames with heap := s₂.heap, slotsUsed := s₂.slotsUsed } : State).setVm s₂.vm := by
      have : s₂ = ({ s₂ with vm := (U.calling g mk a).vm } : State).setVm s₂.vm := rfl
      rw [e2] at this
      exact this
    have hf₂ : s₂.frames = .throwing q :: .java g :: U.frames.tail := hend
    have hW' : U.WarmedH s₂.vm := hW₂
    have hs₂ : s₂ = ((({ U with heap := s₂.heap, slotsUsed := s₂.slotsUsed } : State).setVm s₂.vm).setTop g).pushFrame (.throwing q) := by
      refine e3.trans ?_
      rw [hf₂, State.calling_eq h.top, State.setFrames_setFrames, State.pushFrame, State.frames_setTop _ hr', State.setTop_of_frames _ hr', State.setFrames_setFrames, hr]
      rfl
    have hsame : U.sameButNew ({ U with heap := s₂.heap, slotsUsed := s₂.slotsUsed } : State) L mc ms := by
      refine ⟨?_, q2, q3, q4, q5, q6⟩
      obtain ⟨t, ht, -⟩ := State.frames_cons hr
      show ({ U with heap := s₂.heap, slotsUsed := s₂.slotsUsed } : State) = { U.setFrames U.frames with heap := s₂.heap, slotsUsed := s₂.slotsUsed }
      rw [State.setFrames_self ht]
    subst hg
    refine Or.inr ⟨q, ⟨(({ U with heap := s₂.heap, slotsUsed := s₂.slotsUsed } : State).setVm s₂.vm), Ls ++ L, c0 + mc, s0 + ms⟩,
      ⟨X.admits, X.cas, X.clock, X.frames, X.room, X.hears, X.method, X.code, (X.here.setHeapUsed s₂.heap s₂.slotsUsed).setVm hW'.alike, X.tail, State.WarmedH.trans X.warmed hW', X.limits, X.bytes, X.same.trans (hsame.setVm s.vm)⟩,
      ⟨g, mk, s₂, L, E, ce, rfl, rfl, hx, hce, hcv, hcl, rfl, hL, rfl, rfl⟩, ?_⟩
    show Steps p.tables e below _ (((({ U with heap := s₂.heap, slotsUsed := s₂.slotsUsed } : State).setVm s₂.vm).setTop g).pushFrame (.throwing q))
    rw [← hs₂]
    exact hsteps
end Payer
section Calls
variable {p : Program} {l : Launch} {e : Env} {R : Room} {s : State} {m : MethodId} {args : Array Value} {below : List Frame} {meth : Method} {c : Code} {T : State} {locs : List Loc} {cells slots : Nat}
theorem vx_callV (X : Stand p l e R s m args below meth c T locs cells slots) (hexec : p.tables.exec = Jvm.exec) {own C : String} {index : Nat} {y : MethodName} {bytes : ByteArray} {maxL : Nat} {ret : Option FieldType}
    (hown : s.vm.findClass own = some m.cls) (hlink : (Cond.methodLink own index y).before args s = true) (hinst : (Cond.instanceMethod y).before args s = true) (hsel : (Cond.selects C y y).before args s = true)
    (hcode : (Cond.code y bytes maxL ret).before args s = true) (hy : y.cls ≠ "java/lang/invoke/MethodHandle" ∧ y.cls ≠ "java/lang/invoke/VarHandle")
    {W9 : Nat} {Pre : Pt → Array Value → Prop} {Post : Pt → Array Value → Option Value → Pt → Prop} {PostX : Pt → Array Value → Addr → Pt → Prop} (hK : vx_Back l R p e below s args y 3 W9 Pre Post PostX)
    {b : Addr} {cellB : Cell} (hcell : T.heap[b]? = some cellB) (hobj : cellB.vm.isStatics = false) (hcls : s.vm.findClass C = some cellB.cls)
    {g : JFrame} (hg : g.method = m) (hsize : g.locals.size = c.maxLocals) {argsL rest : List Value} (hlen : ∀ sig, parseMethodDescriptor y.desc = some sig → argsL.length = sig.parameters.length)
    (hstack : g.stack = argsL.reverse ++ .ref b :: rest) (hW : 2 * g.monitorRoom + (rest.map fun v => v.category).sum ≤ W9) (hdg : decode c.code g.pc = .ok (.invokevirtual index, 3))
    (hpre : ∀ vm₁, s.WarmedH vm₁ → Pre ⟨T.setVm vm₁, locs, cells, slots⟩ (Value.ref b :: argsL).toArray) :
    (∃ (v : Option Value) (vm₁ : Vm) (B : Pt), s.WarmedH vm₁ ∧ Stand p l e R s m args below meth c B.U B.locs B.cells B.slots ∧ Post ⟨T.setVm vm₁, locs, cells, slots⟩ (Value.ref b :: argsL).toArray v B ∧
      ∀ target, Steps p.tables e below (B.U.setTop { g with pc := g.pc + 3, stack := v.toList ++ rest }) target → Steps p.tables e below (T.setTop g) target) ∨
    (∃ (q : Addr) (vm₁ : Vm) (B : Pt), s.WarmedH vm₁ ∧ Stand p l e R s m args below meth c B.U B.locs B.cells B.slots ∧ PostX ⟨T.setVm vm₁, locs, cells, slots⟩ (Value.ref b :: argsL).toArray q B ∧
      Steps p.tables e below (T.setTop g) ((B.U.setTop { g with stack := rest }).pushFrame (.throwing q))) := by
  obtain ⟨mk, methM, hnamed, hmethM, hstM, habM⟩ := Cond.instanceMethod_spec hinst
  obtain ⟨methM', cM, hmethM', -, -, -, -, -, -, hsigM⟩ := Cond.code_spec hnamed hcode
  cases hmethM.symm.trans hmethM'
  obtain ⟨c2, r2, m2, q1, q2, q3, q4, kP, hkP, hkPi⟩ := Cond.selects_spec hsel
  cases hcls.symm.trans q1
  cases (State.methodFound?_of_named hnamed hy).symm.trans q2
  cases hnamed.symm.trans q3
  have hselP : selectMethod e.platform s.vm cellB.cls mk = .method mk := by rw [Launch.admits_selectMethod X.admits]; exact q4
  obtain ⟨vm₁, X₁, hstep₁⟩ := X.invokevirtual hexec hown hlink hnamed hmethM hstM hkP hkPi hy (a := b) (cell := cellB) hcell
    (fun z h => by rw [h] at hobj; cases hobj) hselP hmethM habM hkP hkPi (g := g) hg (argsL := argsL) (rest := rest) (hlen _ hsigM) hstack hdg
  rcases hK m meth c ⟨T.setVm vm₁, locs, cells, slots⟩ { g with stack := rest } (.invokevirtual index) mk (Value.ref b :: argsL).toArray X₁ hg hsize hdg hW (X₁.named hnamed) (hpre vm₁ X₁.warmed) with ⟨v, B, X', hpost, hsteps⟩ | ⟨q, B, X', hpost, hsteps⟩
  · exact Or.inl ⟨v, vm₁, B, X₁.warmed, X', hpost, fun target h => hstep₁ _ fun acts => by rw [doInvoke_state]; exact hsteps.trans h⟩
  · exact Or.inr ⟨q, vm₁, B, X₁.warmed, X', hpost, hstep₁ _ fun acts => by rw [doInvoke_state]; exact hsteps⟩
theorem vx_callS (X : Stand p l e R s m args below meth c T locs cells slots) (hexec : p.tables.exec = Jvm.exec) {own : String} {index : Nat} {y : MethodName} {bytes : ByteArray} {maxL : Nat} {ret : Option FieldType}
    (hown : s.vm.findClass own = some m.cls) (hlink : (Cond.methodLink own index y).before args s = true) (hstat : (Cond.static y).before args s = true) (hinit : (Cond.initialized y.cls).before args s = true)
    (hcode : (Cond.code y bytes maxL ret).before args s = true) (hy : y.cls ≠ "java/lang/invoke/MethodHandle" ∧ y.cls ≠ "java/lang/invoke/VarHandle")
    {W9 : Nat} {Pre : Pt → Array Value → Prop} {Post : Pt → Array Value → Option Value → Pt → Prop} {PostX : Pt → Array Value → Addr → Pt → Prop} (hK : vx_Back l R p e below s args y 3 W9 Pre Post PostX)
    {g : JFrame} (hg : g.method = m) (hsize : g.locals.size = c.maxLocals) {argsL rest : List Value} (hlen : ∀ sig, parseMethodDescriptor y.desc = some sig → argsL.length = sig.parameters.length)
    (hstack : g.stack = argsL.reverse ++ rest) (hW : 2 * g.monitorRoom + (rest.map fun v => v.category).sum ≤ W9) (hdg : decode c.code g.pc = .ok (.invokestatic index, 3))
    (hpre : ∀ vm₁, s.WarmedH vm₁ → Pre ⟨T.setVm vm₁, locs, cells, slots⟩ argsL.toArray) :
    (∃ (v : Option Value) (vm₁ : Vm) (B : Pt), s.WarmedH vm₁ ∧ Stand p l e R s m args below meth c B.U B.locs B.cells B.slots ∧ Post ⟨T.setVm vm₁, locs, cells, slots⟩ argsL.toArray v B ∧
      ∀ target, Steps p.tables e below (B.U.setTop { g with pc := g.pc + 3, stack := v.toList ++ rest }) target → Steps p.tables e below (T.setTop g) target) ∨
    (∃ (q : Addr) (vm₁ : Vm) (B : Pt), s.WarmedH vm₁ ∧ Stand p l e R s m args below meth c B.U B.locs B.cells B.slots ∧ PostX ⟨T.setVm vm₁, locs, cells, slots⟩ argsL.toArray q B ∧
      Steps p.tables e below (T.setTop g) ((B.U.setTop { g with stack := rest }).pushFrame (.throwing q))) := by
  obtain ⟨mk, hnamed⟩ := Cond.code_named hcode
  obtain ⟨methM, cM, hmethM, -, -, -, -, -, -, hsigM⟩ := Cond.code_spec hnamed hcode
  have hstatic : methM.isStatic = true := Cond.static_spec hnamed hmethM hstat
  obtain ⟨kP, hkP, -⟩ := className_of_methodNamed hnamed
  have hinitP : kP.init = .initialized := Cond.initialized_spec (findClass_of_methodNamed hnamed) hkP hinit
  obtain ⟨vm₁, X₁, hstep₁⟩ := X.invokestatic hexec hown hlink hnamed hmethM hstatic hkP hinitP hy (g := g) hg (argsL := argsL) (rest := rest) (hlen _ hsigM) hstack hdg
  rcases hK m meth c ⟨T.setVm vm₁, locs, cells, slots⟩ { g with stack := rest } (.invokestatic index) mk argsL.toArray X₁ hg hsize hdg hW (X₁.named hnamed) (hpre vm₁ X₁.warmed) with ⟨v, B, X', hpost, hsteps⟩ | ⟨q, B, X', hpost, hsteps⟩
  · exact Or.inl ⟨v, vm₁, B, X₁.warmed, X', hpost, fun target h => hstep₁ _ fun acts => by rw [doInvoke_state]; exact hsteps.trans h⟩
  · exact Or.inr ⟨q, vm₁, B, X₁.warmed, X', hpost, hstep₁ _ fun acts => by rw [doInvoke_state]; exact hsteps⟩
end Calls
theorem vx_cls {s : State} {T : State} {vm₁ : Vm} {E : String} {k : ClassId} (hW : s.WarmedH vm₁) (h : (T.setVm vm₁).vm.findClass E = some k) : s.vm.findClass E = some k := by
  have h1 : vm₁.findClass E = some k := h
  rw [hW.alike.findClass] at h1
  exact h1
/-- the method's frame g, with q thrown over it -/
def vx_W (p : Program) (l : Launch) (e : Env) (R : Room) (s : State) (m : MethodId) (args : Array Value) (below : List Frame) (meth : Method) (c : Code) (H : Heap) (locs : List Loc) (cells slots : Nat) (Q : State → Prop) (g : JFrame) (q : Addr) : Prop :=
  ∀ T : State, T.heap = H → Stand p l e R s m args below meth c T locs cells slots → ∃ t, Steps p.tables e below ((T.setTop g).pushFrame (.throwing q)) t ∧ Q t
def vx_Run (p : Program) (l : Launch) (e : Env) (R : Room) (s : State) (m : MethodId) (args : Array Value) (below : List Frame) (meth : Method) (c : Code) (H : Heap) (locs : List Loc) (cells slots mc ms : Nat) (g : JFrame) (rest : List Value) (Qa : State → Outcome → State → Prop) (XC : String → State → State → Prop) (free : Addr → Prop) : Prop :=
  ∀ T : State, T.heap = H → Stand p l e R s m args below meth c T locs cells slots →
    (∃ (v : Option Value) (st₀ t T' : State) (L : List Loc), st₀.heap = H ∧ Stand p l e R s m args below meth c T' (locs ++ L) (cells + mc) (slots + ms) ∧ (∀ q ∈ L, free q.base) ∧ T'.heap = t.heap ∧ T'.vm = t.vm ∧ Qa st₀ (.returned v) t ∧
      Goes p e below T g T' { g with pc := g.pc + 3, stack := v.toList ++ rest }) ∨
    (∃ (q : Addr) (st₀ t T' : State) (L : List Loc) (E : String) (ce : Cell), st₀.heap = H ∧ Stand p l e R s m args below meth c T' (locs ++ L) (cells + mc) (slots + ms) ∧ (∀ z ∈ L, free z.base) ∧ T'.heap = t.heap ∧ T'.vm = t.vm ∧ XC E st₀ t ∧ t.heap[q]? = some ce ∧ ce.vm = .none ∧ s.vm.findClass E = some ce.cls ∧
      Steps p.tables e below (T.setTop g) ((T'.setTop { g with stack := rest }).pushFrame (.throwing q)))
def vx_X {S : Type} (px : S → Prop) (B : String → S → State → Prop) (A : Nat → Prop) : String → State → State → Prop := fun E st t => ∃ u : S, px u ∧ B E u t ∧ va_F A st t
section Runs
variable {p : Program} {l : Launch} {e : Env} {R : Room} {s : State} {m : MethodId} {args : Array Value} {below : List Frame} {meth : Method} {c : Code} {H : Heap} {locs : List Loc} {cells slots : Nat}
variable {y : MethodName} {bytes cc : ByteArray} {maxL nL mc ms n index : Nat} {ret : Option FieldType} {ws : List Cond} {rm : Room} {Pc : Array Value → State → Prop} {Qc : Array Value → State → Outcome → State → Prop} {XC : String → State → State → Prop} {free : Addr → Prop} {Ts : List Cond} {own C : String} {b : Addr} {As rest : List Value} {g : JFrame}
theorem vx_callBack (cb : CallB R s args own index y bytes maxL ret ws rm mc ms n) (hM : vx_Met l y ws rm Pc Qc XC mc ms free) (hbl : FrameBlind Pc) : vx_Back l R p e below s args y 3 8 (PreOf R mc ms Pc) (PostOf Qc mc ms free) (vx_Post XC mc ms free) := by
  obtain ⟨hrc, hrs, hfr, hlo, hws, hcw, -, hini, -⟩ := cb
  exact vx_back (bytes := bytes) (maxL := maxL) (ret := ret) hM hbl hrc hrs hfr hlo hws hcw (fun a' U hW => word_at hW (Or.inl (by first | rfl | simp [Cond.onTables, Cond.keeps, Cond.steady])) hini)
theorem vx_runV (S : CallFix p m c cc nL s args Ts own) (hM : vx_Met l y ws rm Pc Qc XC mc ms free) (cw : CallW R s args own C index y bytes maxL ret ws rm mc ms n) (hp : PreV s H C b Pc As)
    (hg : g.method = m) (hn : As.length = n) (hsize : g.locals.size = nL) (hstack : g.stack = As.reverse ++ .ref b :: rest) (hW : 2 * g.monitorRoom + (rest.map fun v => v.category).sum ≤ 8) (hdg : decode cc g.pc = .ok (.invokevirtual index, 3)) (hf : cells + mc ≤ R.cells ∧ slots + ms ≤ R.slots) :
    vx_Run p l e R s m args below meth c H locs cells slots mc ms g rest (Qc (Value.ref b :: As).toArray) XC free := by
  have hK : vx_Back l R p e below s args y 3 8 (PreOf R mc ms Pc) (PostOf Qc mc ms free) (vx_Post XC mc ms free) := vx_callBack cw.1 hM hp.1
  obtain ⟨⟨-, -, -, -, -, -, hcode, -, hy, hlen, hl⟩, hin, hse⟩ := cw
  obtain ⟨hx, hb, hml, ho, -⟩ := S
  obtain ⟨-, ⟨cellB, hcB, hoB, hclB⟩, hPc⟩ := hp
  intro T hT X
  rcases vx_callV X hx (C := C) (bytes := bytes) (maxL := maxL) (ret := ret) ho hl hin hse hcode hy hK (by rw [hT]; exact hcB) hoB hclB hg (hsize.trans hml.symm) (argsL := As) (rest := rest) (fun sig h => hn.trans (hlen sig h)) hstack hW (by rw [hb]; exact hdg)
    (fun vm₁ hW₁ => ⟨hf.1, hf.2, hPc (T.setVm vm₁) hT hW₁⟩) with ⟨v, vm₁, ⟨U', l2, c2, s2⟩, hW₁, X', ⟨g', mk, t, L, e1, e2, hq, h1, hL, h2, h3⟩, st⟩ | ⟨q, vm₁, ⟨U', l2, c2, s2⟩, hW₁, X', ⟨g', mk, t, L, E, ce, e1, e2, hq, hce, hcv, hcl, h1, hL, h2, h3⟩, st⟩
  · dsimp only [Pt.U, Pt.locs, Pt.cells, Pt.slots] at X' e1 e2 h1 h2 h3 st
    subst h1; subst h2; subst h3
    exact Or.inl ⟨v, (T.setVm vm₁).calling g' mk (Value.ref b :: As).toArray, t, U', L, hT, X', hL, e1, e2, hq, st⟩
  · dsimp only [Pt.U, Pt.locs, Pt.cells, Pt.slots] at X' e1 e2 h1 h2 h3 st hcl
    subst h1; subst h2; subst h3
    exact Or.inr ⟨q, (T.setVm vm₁).calling g' mk (Value.ref b :: As).toArray, t, U', L, E, ce, hT, X', hL, e1, e2, hq, hce, hcv, vx_cls hW₁ hcl, st⟩
theorem vx_runS (S : CallFix p m c cc nL s args Ts own) (hM : vx_Met l y ws rm Pc Qc XC mc ms free) (cw : CallB R s args own index y bytes maxL ret ws rm mc ms n ∧ (Cond.static y).before args s = true) (hp : PreS s H Pc As)
    (hg : g.method = m) (hn : As.length = n) (hsize : g.locals.size = nL) (hstack : g.stack = As.reverse ++ rest) (hW : 2 * g.monitorRoom + (rest.map fun v => v.category).sum ≤ 8) (hdg : decode cc g.pc = .ok (.invokestatic index, 3)) (hf : cells + mc ≤ R.cells ∧ slots + ms ≤ R.slots) :
    vx_Run p l e R s m args below meth c H locs cells slots mc ms g rest (Qc As.toArray) XC free := by
  have hK : vx_Back l R p e below s args y 3 8 (PreOf R mc ms Pc) (PostOf Qc mc ms free) (vx_Post XC mc ms free) := vx_callBack cw.1 hM hp.1
  obtain ⟨⟨-, -, -, -, -, -, hcode, hini, hy, hlen, hl⟩, hstt⟩ := cw
  obtain ⟨hx, hb, hml, ho, -⟩ := S
  intro T hT X
  rcases vx_callS X hx (bytes := bytes) (maxL := maxL) (ret := ret) ho hl hstt hini hcode hy hK hg (hsize.trans hml.symm) (argsL := As) (rest := rest) (fun sig h => hn.trans (hlen sig h)) hstack hW (by rw [hb]; exact hdg)
    (fun vm₁ hW₁ => ⟨hf.1, hf.2, hp.2 (T.setVm vm₁) hT hW₁⟩) with ⟨v, vm₁, ⟨U', l2, c2, s2⟩, hW₁, X', ⟨g', mk, t, L, e1, e2, hq, h1, hL, h2, h3⟩, st⟩ | ⟨q, vm₁, ⟨U', l2, c2, s2⟩, hW₁, X', ⟨g', mk, t, L, E, ce, e1, e2, hq, hce, hcv, hcl, h1, hL, h2, h3⟩, st⟩
  · dsimp only [Pt.U, Pt.locs, Pt.cells, Pt.slots] at X' e1 e2 h1 h2 h3 st
    subst h1; subst h2; subst h3
    exact Or.inl ⟨v, (T.setVm vm₁).calling g' mk As.toArray, t, U', L, hT, X', hL, e1, e2, hq, st⟩
  · dsimp only [Pt.U, Pt.locs, Pt.cells, Pt.slots] at X' e1 e2 h1 h2 h3 st hcl
    subst h1; subst h2; subst h3
    exact Or.inr ⟨q, (T.setVm vm₁).calling g' mk As.toArray, t, U', L, E, ce, hT, X', hL, e1, e2, hq, hce, hcv, vx_cls hW₁ hcl, st⟩
end Runs
section Rows
variable {p : Program} {l : Launch} {e : Env} {R : Room} {s : State} {m : MethodId} {args : Array Value} {below : List Frame} {meth : Method} {c : Code} {H : Heap} {locs : List Loc} {cells slots : Nat} {Q : State → Prop}
variable {mc ms : Nat} {free : Addr → Prop} {A0 A1 : Nat → Prop} {H0 : Heap} {a : Array Value} {pc : Nat} {ls : Array Slot} {st0 rest : List Value}
theorem vx_keep {st₀ t T' : State} {L : List Loc} (h0 : st₀.heap = H) (e1 : T'.heap = t.heap) (hS : va_S A0 H0 H locs) (hA : ∀ q, q < H.size → A1 q → A0 q) (hf : ∀ q, free q → A0 q) (hL : ∀ q ∈ L, free q.base) (hF : va_F A1 st₀ t) :
    H.size ≤ T'.heap.size ∧ (∀ q : Nat, q < H.size → ¬ A1 q → T'.heap[q]? = H[q]?) ∧ va_S A0 H0 T'.heap (locs ++ L) := by
  obtain ⟨hz, hk⟩ := hF
  rw [h0] at hz hk
  exact ⟨by rw [e1]; exact hz, fun q h1 h2 => by rw [e1]; exact hk q h1 h2,
    ⟨Nat.le_trans hS.1 (by rw [e1]; exact hz), fun q h1 h2 => by rw [e1, hk q (Nat.lt_of_lt_of_le h1 hS.1) (fun z => h2 (hA q (Nat.lt_of_lt_of_le h1 hS.1) z))]; exact hS.2.1 q h1 h2, fun q hq => by
      rcases List.mem_append.mp hq with h | h
      · exact hS.2.2 q h
      · exact hf _ (hL q h)⟩⟩
theorem vx_calli {S SX : Type} {post : Int32 → S → Prop} {px : SX → Prop} {B : S → State → Prop} {BX : String → SX → State → Prop} {AX : Nat → Prop} (hr : vx_Run p l e R s m args below meth c H locs cells slots mc ms (F0 m pc ls st0) rest (va_Qi post B A1 a) (vx_X px BX AX) free) (hS : va_S A0 H0 H locs) (hA : ∀ q, q < H.size → A1 q → A0 q) (hf : ∀ q, free q → A0 q) (hAX : ∀ q, q < H.size → AX q → A0 q)
    (kx : ∀ (E : String) (ce : Cell) (q9 : Addr) (u : SX) (t : State) (H1 : Heap) (locs1 : List Loc), t.heap = H1 → s.vm.Alike t.vm → px u → BX E u t → H.size ≤ H1.size → (∀ q : Nat, q < H.size → ¬ AX q → H1[q]? = H[q]?) → va_S A0 H0 H1 locs1 → H1[q9]? = some ce → ce.vm = .none → s.vm.findClass E = some ce.cls → vx_W p l e R s m args below meth c H1 locs1 (cells + mc) (slots + ms) Q (F0 m pc ls rest) q9)
    (kk : ∀ (r : Int32) (u : S) (t : State) (H1 : Heap) (locs1 : List Loc), t.heap = H1 → s.vm.Alike t.vm → post r u → B u t → H.size ≤ H1.size → (∀ q : Nat, q < H.size → ¬ A1 q → H1[q]? = H[q]?) → va_S A0 H0 H1 locs1 → W p l e R s m args below meth c H1 locs1 (cells + mc) (slots + ms) Q (F0 m (pc + 3) ls (.int r :: rest))) : W p l e R s m args below meth c H locs cells slots Q (F0 m pc ls st0) := by
  intro T hT X
  rcases hr T hT X with ⟨v, st₀, t, T', L, h0, X', hL, e1, e2, ⟨⟨r, u, hv, hp, hb⟩, hF⟩, st⟩ | ⟨q, st₀, t, T', L, E, ce, h0, X', hL, e1, e2, ⟨u, hp, hb, hF⟩, hce, hcv, hcl, st⟩
  · cases hv
    obtain ⟨k1, k2, k3⟩ := vx_keep h0 e1 hS hA hf hL hF
    obtain ⟨t2, a1, b1⟩ := kk r u t T'.heap (locs ++ L) e1.symm (by rw [← e2]; exact X'.warmed.alike) hp hb k1 k2 k3 T' rfl X'
    exact ⟨t2, st t2 a1, b1⟩
  · obtain ⟨k1, k2, k3⟩ := vx_keep h0 e1 hS hAX hf hL hF
    obtain ⟨t2, a1, b1⟩ := kx E ce q u t T'.heap (locs ++ L) e1.symm (by rw [← e2]; exact X'.warmed.alike) hp hb k1 k2 k3 (by rw [e1]; exact hce) hcv hcl T' rfl X'
    exact ⟨t2, st.trans a1, b1⟩
theorem vx_calll {S SX : Type} {post : Int64 → S → Prop} {px : SX → Prop} {B : S → State → Prop} {BX : String → SX → State → Prop} {AX : Nat → Prop} (hr : vx_Run p l e R s m args below meth c H locs cells slots mc ms (F0 m pc ls st0) rest (va_Ql post B A1 a) (vx_X px BX AX) free) (hS : va_S A0 H0 H locs) (hA : ∀ q, q < H.size → A1 q → A0 q) (hf : ∀ q, free q → A0 q) (hAX : ∀ q, q < H.size → AX q → A0 q)
    (kx : ∀ (E : String) (ce : Cell) (q9 : Addr) (u : SX) (t : State) (H1 : Heap) (locs1 : List Loc), t.heap = H1 → s.vm.Alike t.vm → px u → BX E u t → H.size ≤ H1.size → (∀ q : Nat, q < H.size → ¬ AX q → H1[q]? = H[q]?) → va_S A0 H0 H1 locs1 → H1[q9]? = some ce → ce.vm = .none → s.vm.findClass E = some ce.cls → vx_W p l e R s m args below meth c H1 locs1 (cells + mc) (slots + ms) Q (F0 m pc ls rest) q9)
    (kk : ∀ (r : Int64) (u : S) (t : State) (H1 : Heap) (locs1 : List Loc), t.heap = H1 → s.vm.Alike t.vm → post r u → B u t → H.size ≤ H1.size → (∀ q : Nat, q < H.size → ¬ A1 q → H1[q]? = H[q]?) → va_S A0 H0 H1 locs1 → W p l e R s m args below meth c H1 locs1 (cells + mc) (slots + ms) Q (F0 m (pc + 3) ls (.long r :: rest))) : W p l e R s m args below meth c H locs cells slots Q (F0 m pc ls st0) := by
  intro T hT X
  rcases hr T hT X with ⟨v, st₀, t, T', L, h0, X', hL, e1, e2, ⟨⟨r, u, hv, hp, hb⟩, hF⟩, st⟩ | ⟨q, st₀, t, T', L, E, ce, h0, X', hL, e1, e2, ⟨u, hp, hb, hF⟩, hce, hcv, hcl, st⟩
  · cases hv
    obtain ⟨k1, k2, k3⟩ := vx_keep h0 e1 hS hA hf hL hF
    obtain ⟨t2, a1, b1⟩ := kk r u t T'.heap (locs ++ L) e1.symm (by rw [← e2]; exact X'.warmed.alike) hp hb k1 k2 k3 T' rfl X'
    exact ⟨t2, st t2 a1, b1⟩
  · obtain ⟨k1, k2, k3⟩ := vx_keep h0 e1 hS hAX hf hL hF
    obtain ⟨t2, a1, b1⟩ := kx E ce q u t T'.heap (locs ++ L) e1.symm (by rw [← e2]; exact X'.warmed.alike) hp hb k1 k2 k3 (by rw [e1]; exact hce) hcv hcl T' rfl X'
    exact ⟨t2, st.trans a1, b1⟩
theorem vx_callf {S SX : Type} {post : UInt32 → S → Prop} {px : SX → Prop} {B : S → State → Prop} {BX : String → SX → State → Prop} {AX : Nat → Prop} (hr : vx_Run p l e R s m args below meth c H locs cells slots mc ms (F0 m pc ls st0) rest (va_Qf post B A1 a) (vx_X px BX AX) free) (hS : va_S A0 H0 H locs) (hA : ∀ q, q < H.size → A1 q → A0 q) (hf : ∀ q, free q → A0 q) (hAX : ∀ q, q < H.size → AX q → A0 q)
    (kx : ∀ (E : String) (ce : Cell) (q9 : Addr) (u : SX) (t : State) (H1 : Heap) (locs1 : List Loc), t.heap = H1 → s.vm.Alike t.vm → px u → BX E u t → H.size ≤ H1.size → (∀ q : Nat, q < H.size → ¬ AX q → H1[q]? = H[q]?) → va_S A0 H0 H1 locs1 → H1[q9]? = some ce → ce.vm = .none → s.vm.findClass E = some ce.cls → vx_W p l e R s m args below meth c H1 locs1 (cells + mc) (slots + ms) Q (F0 m pc ls rest) q9)
    (kk : ∀ (r : UInt32) (u : S) (t : State) (H1 : Heap) (locs1 : List Loc), t.heap = H1 → s.vm.Alike t.vm → post r u → B u t → H.size ≤ H1.size → (∀ q : Nat, q < H.size → ¬ A1 q → H1[q]? = H[q]?) → va_S A0 H0 H1 locs1 → W p l e R s m args below meth c H1 locs1 (cells + mc) (slots + ms) Q (F0 m (pc + 3) ls (.float r :: rest))) : W p l e R s m args below meth c H locs cells slots Q (F0 m pc ls st0) := by
  intro T hT X
  rcases hr T hT X with ⟨v, st₀, t, T', L, h0, X', hL, e1, e2, ⟨⟨r, u, hv, hp, hb⟩, hF⟩, st⟩ | ⟨q, st₀, t, T', L, E, ce, h0, X', hL, e1, e2, ⟨u, hp, hb, hF⟩, hce, hcv, hcl, st⟩
  · cases hv
    obtain ⟨k1, k2, k3⟩ := vx_keep h0 e1 hS hA hf hL hF
    obtain ⟨t2, a1, b1⟩ := kk r u t T'.heap (locs ++ L) e1.symm (by rw [← e2]; exact X'.warmed.alike) hp hb k1 k2 k3 T' rfl X'
    exact ⟨t2, st t2 a1, b1⟩
  · obtain ⟨k1, k2, k3⟩ := vx_keep h0 e1 hS hAX hf hL hF
    obtain ⟨t2, a1, b1⟩ := kx E ce q u t T'.heap (locs ++ L) e1.symm (by rw [← e2]; exact X'.warmed.alike) hp hb k1 k2 k3 (by rw [e1]; exact hce) hcv hcl T' rfl X'
    exact ⟨t2, st.trans a1, b1⟩
theorem vx_calld {S SX : Type} {post : UInt64 → S → Prop} {px : SX → Prop} {B : S → State → Prop} {BX : String → SX → State → Prop} {AX : Nat → Prop} (hr : vx_Run p l e R s m args below meth c H locs cells slots mc ms (F0 m pc ls st0) rest (va_Qd post B A1 a) (vx_X px BX AX) free) (hS : va_S A0 H0 H locs) (hA : ∀ q, q < H.size → A1 q → A0 q) (hf : ∀ q, free q → A0 q) (hAX : ∀ q, q < H.size → AX q → A0 q)
    (kx : ∀ (E : String) (ce : Cell) (q9 : Addr) (u : SX) (t : State) (H1 : Heap) (locs1 : List Loc), t.heap = H1 → s.vm.Alike t.vm → px u → BX E u t → H.size ≤ H1.size → (∀ q : Nat, q < H.size → ¬ AX q → H1[q]? = H[q]?) → va_S A0 H0 H1 locs1 → H1[q9]? = some ce → ce.vm = .none → s.vm.findClass E = some ce.cls → vx_W p l e R s m args below meth c H1 locs1 (cells + mc) (slots + ms) Q (F0 m pc ls rest) q9)
    (kk : ∀ (r : UInt64) (u : S) (t : State) (H1 : Heap) (locs1 : List Loc), t.heap = H1 → s.vm.Alike t.vm → post r u → B u t → H.size ≤ H1.size → (∀ q : Nat, q < H.size → ¬ A1 q → H1[q]? = H[q]?) → va_S A0 H0 H1 locs1 → W p l e R s m args below meth c H1 locs1 (cells + mc) (slots + ms) Q (F0 m (pc + 3) ls (.double r :: rest))) : W p l e R s m args below meth c H locs cells slots Q (F0 m pc ls st0) := by
  intro T hT X
  rcases hr T hT X with ⟨v, st₀, t, T', L, h0, X', hL, e1, e2, ⟨⟨r, u, hv, hp, hb⟩, hF⟩, st⟩ | ⟨q, st₀, t, T', L, E, ce, h0, X', hL, e1, e2, ⟨u, hp, hb, hF⟩, hce, hcv, hcl, st⟩
  · cases hv
    obtain ⟨k1, k2, k3⟩ := vx_keep h0 e1 hS hA hf hL hF
    obtain ⟨t2, a1, b1⟩ := kk r u t T'.heap (locs ++ L) e1.symm (by rw [← e2]; exact X'.warmed.alike) hp hb k1 k2 k3 T' rfl X'
    exact ⟨t2, st t2 a1, b1⟩
  · obtain ⟨k1, k2, k3⟩ := vx_keep h0 e1 hS hAX hf hL hF
    obtain ⟨t2, a1, b1⟩ := kx E ce q u t T'.heap (locs ++ L) e1.symm (by rw [← e2]; exact X'.warmed.alike) hp hb k1 k2 k3 (by rw [e1]; exact hce) hcv hcl T' rfl X'
    exact ⟨t2, st.trans a1, b1⟩
theorem vx_callv {S SX : Type} {post : S → Prop} {px : SX → Prop} {B : S → State → Prop} {BX : String → SX → State → Prop} {AX : Nat → Prop} (hr : vx_Run p l e R s m args below meth c H locs cells slots mc ms (F0 m pc ls st0) rest (va_Qv post B A1 a) (vx_X px BX AX) free) (hS : va_S A0 H0 H locs) (hA : ∀ q, q < H.size → A1 q → A0 q) (hf : ∀ q, free q → A0 q) (hAX : ∀ q, q < H.size → AX q → A0 q)
    (kx : ∀ (E : String) (ce : Cell) (q9 : Addr) (u : SX) (t : State) (H1 : Heap) (locs1 : List Loc), t.heap = H1 → s.vm.Alike t.vm → px u → BX E u t → H.size ≤ H1.size → (∀ q : Nat, q < H.size → ¬ AX q → H1[q]? = H[q]?) → va_S A0 H0 H1 locs1 → H1[q9]? = some ce → ce.vm = .none → s.vm.findClass E = some ce.cls → vx_W p l e R s m args below meth c H1 locs1 (cells + mc) (slots + ms) Q (F0 m pc ls rest) q9)
    (kk : ∀ (u : S) (t : State) (H1 : Heap) (locs1 : List Loc), t.heap = H1 → s.vm.Alike t.vm → post u → B u t → H.size ≤ H1.size → (∀ q : Nat, q < H.size → ¬ A1 q → H1[q]? = H[q]?) → va_S A0 H0 H1 locs1 → W p l e R s m args below meth c H1 locs1 (cells + mc) (slots + ms) Q (F0 m (pc + 3) ls (rest))) : W p l e R s m args below meth c H locs cells slots Q (F0 m pc ls st0) := by
  intro T hT X
  rcases hr T hT X with ⟨v, st₀, t, T', L, h0, X', hL, e1, e2, ⟨⟨u, hv, hp, hb⟩, hF⟩, st⟩ | ⟨q, st₀, t, T', L, E, ce, h0, X', hL, e1, e2, ⟨u, hp, hb, hF⟩, hce, hcv, hcl, st⟩
  · cases hv
    obtain ⟨k1, k2, k3⟩ := vx_keep h0 e1 hS hA hf hL hF
    obtain ⟨t2, a1, b1⟩ := kk u t T'.heap (locs ++ L) e1.symm (by rw [← e2]; exact X'.warmed.alike) hp hb k1 k2 k3 T' rfl X'
    exact ⟨t2, st t2 a1, b1⟩
  · obtain ⟨k1, k2, k3⟩ := vx_keep h0 e1 hS hAX hf hL hF
    obtain ⟨t2, a1, b1⟩ := kx E ce q u t T'.heap (locs ++ L) e1.symm (by rw [← e2]; exact X'.warmed.alike) hp hb k1 k2 k3 (by rw [e1]; exact hce) hcv hcl T' rfl X'
    exact ⟨t2, st.trans a1, b1⟩
end Rows
section Ends
variable {p : Program} {l : Launch} {e : Env} {R : Room} {s : State} {m : MethodId} {args : Array Value} {below : List Frame} {meth : Method} {c : Code} {H : Heap} {locs : List Loc} {cells slots : Nat} {Q : State → Prop}
variable {mc ms : Nat} {free : Addr → Prop} {A0 A1 : Nat → Prop} {H0 : Heap} {a : Array Value} {ls : Array Slot} {st0 rest : List Value}
variable {Qc : Array Value → State → Outcome → State → Prop} {XC : String → State → State → Prop}
/-- what a body that may throw owes at its end -/
def vx_MQ (below : List Frame) (Qc : Array Value → State → Outcome → State → Prop) (XC : String → State → State → Prop) (a : Array Value) (s : State) (mc ms : Nat) (free : Addr → Prop) : State → Prop := fun t =>
  ∃ o, t.status = .running ∧ Ended t below o ∧ vx_Q Qc XC mc ms free a s o t
theorem vx_ret {g : JFrame} {mc ms : Nat} (k : W p l e R s m args below meth c H locs cells slots (MQ below Qc args s mc ms free) g) : W p l e R s m args below meth c H locs cells slots (vx_MQ below Qc XC args s mc ms free) g := by
  intro T hT X
  obtain ⟨t, a1, o, b1, b2, b3, b4⟩ := k T hT X
  exact ⟨t, a1, o, b1, b2, Or.inl ⟨b3, b4⟩⟩
/-- not caught here: it goes on to the caller -/
theorem vx_widen {g : JFrame} {q : Addr} {k n : Nat} (h1 : cells ≤ k) (h2 : slots ≤ n) (kk : vx_W p l e R s m args below meth c H locs k n Q g q) : vx_W p l e R s m args below meth c H locs cells slots Q g q := fun T hT X => kk T hT (stand_widen X h1 h2)
theorem vx_out {pc : Nat} {E : String} {ce : Cell} {q : Addr} {mc ms : Nat} (hout : ∀ x ∈ c.exceptionTable.toList, covers x pc = false) (hlocks : meth.locks = false) (hcell : H[q]? = some ce) (hv : ce.vm = .none) (hcl : s.vm.findClass E = some ce.cls)
    (hx : ∀ t : State, t.heap = H → s.vm.Alike t.vm → XC E s t) (hf : ∀ z ∈ locs, free z.base) (hc : cells ≤ mc) (hs : slots ≤ ms) :
    vx_W p l e R s m args below meth c H locs cells slots (vx_MQ below Qc XC args s mc ms free) (F0 m pc ls rest) q := by
  intro T hT X
  obtain ⟨st1, hrun, hend, hW, hsm⟩ := X.leaveThrown q (g := F0 m pc ls rest) rfl rfl rfl hout hlocks
  have hcell9 : (T.setFrames (.throwing q :: below)).heap[q]? = some ce := by
    show T.heap[q]? = some ce
    rw [hT]; exact hcell
  exact ⟨_, st1, .threw q, hrun, hend, Or.inr ⟨q, rfl, E, ce, locs, hx _ hT hW.alike, hcell9, hv, hcl, hW, hsm.mono hc hs, hf⟩⟩
theorem vx_frame {U : State} {k n : Nat} (h : s.sameButNew ({ U with vm := s.vm } : State) locs k n) : s.heap.size ≤ U.heap.size ∧ ∀ q : Nat, q < s.heap.size → (∀ z ∈ locs, z.base ≠ q) → U.heap[q]? = s.heap[q]? := by
  obtain ⟨-, h2, -, -, -, h6⟩ := h
  refine ⟨h2, fun q hq hz => ?_⟩
  obtain ⟨c9, e1, e2, e3, e4⟩ := h6 q _ (Array.getElem?_eq_getElem hq)
  have hs : c9.slots = (s.heap[q]).slots := Array.ext_getElem? fun i => e4 i fun hm => hz _ hm rfl
  have h9 : c9 = s.heap[q] := by
    rw [hs] at e2
    exact e2
  have e5 : U.heap[q]? = some c9 := e1
  rw [e5, h9, Array.getElem?_eq_getElem hq]
/-- the words of a throw but the four that speak of the heap -/
def vx_no (w : Cond) : Bool := decide (w ≠ .isRef (.static Bundle.tN "UNASSIGNED_STACK" Bundle.steD)) && decide (w ≠ .isRef (.static Bundle.tN "SUPPRESSED_SENTINEL" Bundle.listD)) && decide (w ≠ .laysStatic Bundle.tN "UNASSIGNED_STACK" Bundle.steD) && decide (w ≠ .laysStatic Bundle.tN "SUPPRESSED_SENTINEL" Bundle.listD)
def vx_at0 (own : String) (ic : Nat) (X : String) (names : List String) : List Cond := (Bundle.ownAtoms0 own ic X names).filter vx_no
def vx_atS (own : String) (ic : Nat) (X : String) (names : List String) : List Cond := (Bundle.ownAtoms own ic X names).filter vx_no
/-- a word that the tables alone decide, or a good one -/
def vx_ot (w : Cond) : Bool := w.onTables || goodWord w
theorem vx_ot_at {args a' : Array Value} {s U : State} {w : Cond} (hW : s.WarmedH U.vm) (hvm : s.vm = U.vm) (hg : vx_ot w = true) (h : w.before args s = true) : w.before a' U = true := by
  simp only [vx_ot, Bool.or_eq_true] at hg
  rcases hg with hg | hg
  · exact va_tabs hg hvm h
  · exact word_at hW (good_of_word hg) h
/-- a list's words: the good ones out of the method's own list, the others by premises of their own -/
theorem vx_hat {args : Array Value} {s : State} {L B : List Cond} (h1 : ∀ w ∈ L.filter goodWord, w.before args s = true) (h2 : ∀ w ∈ L.filter (fun w => !goodWord w), w ∈ B) (h3 : ∀ w ∈ B, w.before args s = true) : ∀ w ∈ L, w.before args s = true := by
  intro w hw
  by_cases g : goodWord w = true
  · exact h1 w (List.mem_filter.mpr ⟨hw, g⟩)
  · refine h3 w (h2 w (List.mem_filter.mpr ⟨hw, ?_⟩))
    show (!goodWord w) = true
    cases hgw : goodWord w
    · rfl
    · exact absurd hgw g
theorem vx_c {args : Array Value} {s : State} {w : Cond} {B : List Cond} (h : w.before args s = true) (t : ∀ w ∈ B, w.before args s = true) : ∀ w' ∈ w :: B, w'.before args s = true := fun w' h' => (List.mem_cons.mp h').elim (fun e => by rw [e]; exact h) (t w')
theorem vx_n {args : Array Value} {s : State} : ∀ w ∈ ([] : List Cond), w.before args s = true := fun _ h => nomatch h
theorem vx_own {args : Array Value} {s : State} {L : List Cond} (h1 : ∀ w ∈ L.filter vx_no, w.before args s = true)
    (hU : (Cond.isRef (.static Bundle.tN "UNASSIGNED_STACK" Bundle.steD)).before args s = true) (hN : (Cond.isRef (.static Bundle.tN "SUPPRESSED_SENTINEL" Bundle.listD)).before args s = true)
    (lU : (Cond.laysStatic Bundle.tN "UNASSIGNED_STACK" Bundle.steD).before args s = true) (lN : (Cond.laysStatic Bundle.tN "SUPPRESSED_SENTINEL" Bundle.listD).before args s = true) : ∀ w ∈ L, w.before args s = true := by
  intro w hw
  by_cases e1 : w = .isRef (.static Bundle.tN "UNASSIGNED_STACK" Bundle.steD)
  · rw [e1]; exact hU
  · by_cases e2 : w = .isRef (.static Bundle.tN "SUPPRESSED_SENTINEL" Bundle.listD)
    · rw [e2]; exact hN
    · by_cases e3 : w = .laysStatic Bundle.tN "UNASSIGNED_STACK" Bundle.steD
      · rw [e3]; exact lU
      · by_cases e4 : w = .laysStatic Bundle.tN "SUPPRESSED_SENTINEL" Bundle.listD
        · rw [e4]; exact lN
        · exact h1 w (List.mem_filter.mpr ⟨hw, by unfold vx_no; rw [decide_eq_true e1, decide_eq_true e2, decide_eq_true e3, decide_eq_true e4]; rfl⟩)
/-- where a static field lies, its class's statics cell in H -/
def vx_L (C n d : String) (A : Nat → Prop) (U : State) (H : Heap) : Prop := ∃ (c : ClassId) (k : Class) (i : Nat) (f : Field) (a : Nat) (cell : Cell), U.vm.findClass C = some c ∧ U.fieldFound? C n d = some (c, k, i, f) ∧ f.isStatic = true ∧ k.statics = some a ∧ H[a]? = some cell ∧ cell.vm.isStatics = true ∧ cell.cls = c ∧ f.slot < cell.slots.size ∧ k.staticTypes[f.slot]? = some f.type ∧ ¬ A a
theorem vx_L.moved {C n d : String} {A : Nat → Prop} {u U : State} {H : Heap} (hvm : u.vm.Alike U.vm) (h : vx_L C n d A u H) : vx_L C n d A U H := by
  obtain ⟨c, k, i, f, a, cell, h1, h2, h3, h4, h5, h6, h7, h8, h9, h10⟩ := h
  obtain ⟨k', hi', he⟩ := State.fieldFound?_setVm hvm h2
  exact ⟨c, k', i, f, a, cell, by rw [hvm.findClass]; exact h1, hi', h3, by rw [he]; exact h4, h5, h6, h7, h8, by rw [he]; exact h9, h10⟩
theorem vx_L.kept {C n d : String} {A : Nat → Prop} {U : State} {H H1 : Heap} (h : vx_L C n d A U H) (hq : ∀ a : Nat, a < H.size → ¬ A a → H1[a]? = H[a]?) : vx_L C n d A U H1 := by
  obtain ⟨c, k, i, f, a, cell, h1, h2, h3, h4, h5, h6, h7, h8, h9, h10⟩ := h
  exact ⟨c, k, i, f, a, cell, h1, h2, h3, h4, by rw [hq a (Array.getElem?_eq_some_iff.mp h5).1 h10]; exact h5, h6, h7, h8, h9, h10⟩
theorem vx_L.narrow {C n d : String} {A B : Nat → Prop} {U : State} {H : Heap} (h : vx_L C n d A U H) (hAB : ∀ q, B q → A q) : vx_L C n d B U H := by
  obtain ⟨c, k, i, f, a, cell, h1, h2, h3, h4, h5, h6, h7, h8, h9, h10⟩ := h
  exact ⟨c, k, i, f, a, cell, h1, h2, h3, h4, h5, h6, h7, h8, h9, fun z => h10 (hAB _ z)⟩
theorem vx_L.word {C n d : String} {A : Nat → Prop} {s : State} {args : Array Value} (h : vx_L C n d A s s.heap) : (Cond.laysStatic C n d).before args s = true := by
  obtain ⟨c, k, i, f, a, cell, h1, h2, h3, h4, h5, h6, h7, h8, h9, -⟩ := h
  show (Cond.laysStatic C n d).holds args s none s [] = true
  exact Cond.laysStatic_of h1 h2 h3 h4 h5 h6 h7 h8 h9
/-- .. and what it holds: null or some reference -/
def vx_Zq (C n d : String) (A : Nat → Prop) (U : State) (H : Heap) : Prop := va_Zq C n d A U H ∧ vx_L C n d A U H
theorem vx_Zq.moved {C n d : String} {A : Nat → Prop} {u U : State} {H : Heap} (hvm : u.vm.Alike U.vm) (h : vx_Zq C n d A u H) : vx_Zq C n d A U H := ⟨va_Zq.moved hvm h.1, vx_L.moved hvm h.2⟩
theorem vx_Zq.kept {C n d : String} {A : Nat → Prop} {U : State} {H H1 : Heap} (h : vx_Zq C n d A U H) (hq : ∀ a : Nat, a < H.size → ¬ A a → H1[a]? = H[a]?) : vx_Zq C n d A U H1 := ⟨va_Zq.kept h.1 hq, vx_L.kept h.2 hq⟩
theorem vx_Zq.narrow {C n d : String} {A B : Nat → Prop} {U : State} {H : Heap} (h : vx_Zq C n d A U H) (hAB : ∀ q, B q → A q) : vx_Zq C n d B U H := ⟨va_Zq.narrow h.1 hAB, vx_L.narrow h.2 hAB⟩
theorem vx_Zqof {args : Array Value} {s : State} {C n d : String} {A : Nat → Prop} (hl : (Cond.laysStatic C n d).before args s = true) (hini : (Cond.initialized C).before args s = true) (h : (Cond.isRef (.static C n d)).before args s = true) (hA : ∀ a : Nat, a < s.heap.size → ¬ A a) : vx_Zq C n d A s s.heap := by
  refine ⟨va_Zqof hl hini h hA, ?_⟩
  obtain ⟨c, k, i, f, a, cell, h1, h2, h3, h4, h5, h6, h7, h8, h9⟩ := Cond.laysStatic_spec hl
  exact ⟨c, k, i, f, a, cell, h1, h2, h3, h4, h5, h6, h7, h8, h9, hA a (Array.getElem?_eq_some_iff.mp h5).1⟩
theorem vx_isRef {C n d : String} {v : Value} {A : Nat → Prop} {s : State} {args : Array Value} (h : va_Z C n d v A s s.heap) (hv : v.isRef = true) : (Cond.isRef (.static C n d)).before args s = true := by
  obtain ⟨cf, kf, fi, f, a, cell, h1, h2, h3, h4, h5, h6, h7, -⟩ := h
  have he : (Term.static C n d).eval args s none [] s = some v := by
    simp [Term.eval, State.fieldNamed?, h1, h2, h4, h5, h6, h7]
  simp only [Cond.before, Cond.holds, Cond.value, he]
  cases v <;> simp_all [Value.isRef]
theorem vx_isRefq {C n d : String} {A : Nat → Prop} {s : State} {args : Array Value} (h : va_Zq C n d A s s.heap) : (Cond.isRef (.static C n d)).before args s = true := by
  rcases h with h | ⟨t, h⟩
  · exact vx_isRef h rfl
  · exact vx_isRef h rfl
/-- the same frame, seen from here: as if the method were called anew in this heap -/
theorem vx_rebase {T : State} (X : Stand p l e R s m args below meth c T locs cells slots) {R' : Room} (hf : R'.frames ≤ R.frames) (hl : R'.locals ≤ R.locals) (hc : cells + R'.cells ≤ R.cells) (hs : slots + R'.slots ≤ R.slots) :
    Stand p l e R' ((T.setVm s.vm).setFrames (.invoking m args :: below)) m args below meth c T [] 0 0 := by
  have htop : (T.setVm s.vm).topJava?.isSome := X.here.top
  have hF : ((T.setVm s.vm).setFrames (.invoking m args :: below)).frames = .invoking m args :: below := State.frames_setFrames _ (State.cur_lt_of_top htop)
  obtain ⟨g₀, hg0⟩ := Option.isSome_iff_exists.mp htop
  obtain ⟨r, hr⟩ := State.topJava?_eq_some.mp hg0
  have hl9 : e.platform.stackLimits (T.setVm s.vm).me = e.platform.stackLimits s.me := X.limits
  have hb9 : (T.setVm s.vm).me.stackBytes = s.me.stackBytes := X.bytes
  refine ⟨X.admits, X.cas, X.clock, hF, ?_, X.hears, X.method, X.code, X.here, X.tail, X.warmed, ?_, ?_, ?_⟩
  · have h := X.room
    have hU : ((T.setVm s.vm).setFrames (.invoking m args :: below)).localsInUse = s.localsInUse := by
      rw [State.localsInUse_invoking hF (meth := meth) (c := c) X.method X.code, State.localsInUse_invoking X.frames X.method X.code]
    simp only [State.hasRoom, Bool.and_eq_true, decide_eq_true_eq] at h ⊢
    obtain ⟨⟨⟨⟨h1, h2, h3, h4, h5, h6⟩, h7⟩, h8⟩, h9⟩ := h
    rw [X.frames, List.length_cons] at h2 h3
    have q1 := X.heapSize
    have q2 := X.used
    simp only [hF, hU, List.length_cons, State.stackLimits_setFrames, State.stackBytes_setFrames, hl9, hb9]
    refine ⟨⟨⟨⟨by omega, by omega, by omega, by omega, by omega, h6⟩, ?_⟩, ?_⟩, X.book⟩
    · show T.heap.size + R'.cells ≤ e.platform.maxCells
      omega
    · show T.slotsUsed + R'.slots ≤ e.platform.maxSlots
      omega
  · rw [State.stackLimits_setFrames]; rfl
  · rw [State.stackBytes_setFrames]; rfl
  · refine ⟨?_, Nat.le_refl _, Nat.le_refl _, ?_, ?_, fun a c9 h9 => ⟨c9, h9, rfl, rfl, fun _ _ => rfl⟩⟩
    · obtain ⟨t, ht, -⟩ := State.frames_cons hr
      show T.setVm s.vm = { ((T.setVm s.vm).setFrames (.invoking m args :: below)).setFrames (T.setVm s.vm).frames with heap := T.heap, slotsUsed := T.slotsUsed }
      rw [State.setFrames_setFrames, State.setFrames_self ht]
      rfl
    · show T.slotsUsed = T.slotsUsed + ((T.heap.toList.drop T.heap.size).map (·.slots.size)).sum
      rw [List.drop_eq_nil_of_le (Nat.le_of_eq Array.length_toList)]
      rfl
    · show ((T.heap.toList.drop T.heap.size).map (·.slots.size)).sum ≤ 0
      rw [List.drop_eq_nil_of_le (Nat.le_of_eq Array.length_toList)]
      exact Nat.le_refl _
/-- 'throw new E()': new; dup; invokespecial; athrow -/
theorem vx_throw0 {cc : ByteArray} {pc : Nat} (hexec : p.tables.exec = Jvm.exec) (hb : c.code = cc) (hl : l.stackTraces = false) {own cls : String} {names : List String} {ik ic mc ms : Nat} {A : Nat → Prop}
    (hown : s.vm.findClass own = some m.cls) (hcls : Bundle.fit cls = true) (hnames : ∀ n ∈ names, Bundle.fit n = true)
    (hk : (Cond.classLink own ik cls).before args s = true) (hini : (Cond.initialized cls).before args s = true) (hat : ∀ w ∈ vx_at0 own ic cls names, w.before args s = true)
    (hgood : ∀ w ∈ Cond.classLink own ik cls :: Cond.initialized cls :: vx_at0 own ic cls names, vx_ot w = true)
    (hU : vx_Zq Bundle.tN "UNASSIGNED_STACK" Bundle.steD A s s.heap) (hN : vx_Zq Bundle.tN "SUPPRESSED_SENTINEL" Bundle.listD A s s.heap) (hS : va_S A s.heap H locs) (hsize : ls.size = c.maxLocals)
    (d0 : decode cc pc = .ok (.new ik, 3)) (d3 : decode cc (pc + 3) = .ok (.dup, 1)) (d4 : decode cc (pc + 4) = .ok (.invokespecial ic, 3)) (d7 : decode cc (pc + 7) = .ok (.athrow, 1))
    (hout : ∀ x ∈ c.exceptionTable.toList, covers x (pc + 7) = false)
    (hRframes : names.length + 3 < R.frames) (hRlocals : (rest.map fun v => v.category).sum + (13 * (names.length + 1) + 42) ≤ R.locals) (hRcells : cells + 1 ≤ R.cells) (hRslots : slots + 6 ≤ R.slots) (hlocks : meth.locks = false)
    (hx : ∀ t : State, s.vm.Alike t.vm → H.size ≤ t.heap.size → (∀ q : Nat, q < H.size → t.heap[q]? = H[q]?) → XC cls s t)
    (hf : ∀ z ∈ locs, free z.base) (hc : cells + 1 ≤ mc) (hs : slots + 6 ≤ ms) :
    W p l e R s m args below meth c H locs cells slots (vx_MQ below Qc XC args s mc ms free) (F0 m pc ls rest) := by
  intro T hT X
  have htr : e.platform.stackTraces = false := (show e.platform.stackTraces = l.stackTraces by rw [X.admits.platform]).trans hl
  have Y := vx_rebase X (R' := { frames := R.frames, locals := R.locals, cells := 1, slots := 6 }) (Nat.le_refl _) (Nat.le_refl _) hRcells hRslots
  obtain ⟨s', hA⟩ : ∃ z, z = (T.setVm s.vm).setFrames (.invoking m args :: below) := ⟨_, rfl⟩
  rw [← hA] at Y
  have hvm : s'.vm = s.vm := by rw [hA]; rfl
  have hhp : s'.heap = H := by rw [hA]; exact hT
  have hW0 : s.WarmedH s'.vm := by rw [hvm]; exact State.WarmedH.refl s
  have hat' : ∀ w ∈ vx_at0 own ic cls names, w.before args s' = true := fun w hw => vx_ot_at hW0 hvm.symm (hgood w (List.mem_cons_of_mem _ (List.mem_cons_of_mem _ hw))) (hat w hw)
  have hk' : (Cond.classLink own ik cls).before args s' = true := vx_ot_at hW0 hvm.symm (hgood _ List.mem_cons_self) hk
  have hini' : (Cond.initialized cls).before args s' = true := vx_ot_at hW0 hvm.symm (hgood _ (List.mem_cons_of_mem _ List.mem_cons_self)) hini
  have hU' : vx_Zq Bundle.tN "UNASSIGNED_STACK" Bundle.steD A s' s'.heap := by rw [hhp]; exact vx_Zq.moved hW0.alike (hU.kept hS.2.1)
  have hN' : vx_Zq Bundle.tN "SUPPRESSED_SENTINEL" Bundle.listD A s' s'.heap := by rw [hhp]; exact vx_Zq.moved hW0.alike (hN.kept hS.2.1)
  have h : ∀ w ∈ Bundle.ownAtoms0 own ic cls names, w.before args s' = true := vx_own hat' (vx_isRefq hU'.1) (vx_isRefq hN'.1) hU'.2.word hN'.2.word
  have hown' : s'.vm.findClass own = some m.cls := by rw [hvm]; exact hown
  have hins : (Cond.instantiable cls 6).before args s' = true := h _ (by simp [Bundle.ownAtoms0])
  obtain ⟨vm₁, cX, kX, hfX, hkX, -, -, X₁, st1⟩ := Y.newCold hexec (own := own) (C := cls) (index := ik) (n := 6) hown' hk' hins hini'
    (g := F0 m pc ls rest) rfl (by rw [hb]; exact d0) (Nat.le_refl _) (Nat.le_refl _)
  generalize hT1 : (T.setVm vm₁).pushCell { cls := cX, slots := kX.instanceTypes.map defaultValue, vm := .none } = T1 at X₁ st1
  have hcat : (Value.ref T.heap.size).category = 1 := rfl
  have hcellA : T1.heap[T.heap.size]? = some (freshCell cX kX) := by rw [← hT1]; exact State.heap_pushCell_size _ _
  have d3' : decode c.code (pc + 3) = .ok (.dup, 1) := by rw [hb]; exact d3
  obtain ⟨U, hsteps, hrun, hend, hW, hsame, ce, hce, hO⟩ := X₁.ctorThrow0 hexec htr (own := own) (cls := cls) (names := names) (ic := ic) hown' hcls hnames h (fun x hx => nomatch hx) hfX hkX hcellA (by rw [hhp, hT]; exact Nat.le_refl _)
    (g := { method := m, pc := pc + 4, locals := ls, stack := .ref T.heap.size :: .ref T.heap.size :: rest, locked := none }) rfl hsize rfl rfl (rest := rest) rfl
    (by rw [hb]; exact d4) (by rw [hb]; exact d7) hout hRframes (by simp only [List.map_cons, List.sum_cons, hcat]; omega) hlocks
  obtain ⟨f1, f2⟩ := vx_frame hsame
  rw [hhp] at f1 f2
  have hWs : s.WarmedH U.vm := State.WarmedH.trans hW0 hW
  have hcl : s.vm.findClass cls = some ce.cls := by
    have h9 := hO.cls
    rw [hvm] at h9
    exact h9
  have hall : s.sameButNew ({ U with vm := s.vm } : State) locs mc ms := by
    subst hA
    obtain ⟨e1, e2⟩ := hsame
    rw [State.setFrames_setFrames] at e1
    have h2 : (T.setVm s.vm).sameButNew ({ U with vm := s.vm } : State) [] (0 + 1) (0 + 6) := ⟨e1, e2⟩
    have h3 := X.same.trans h2
    rw [List.append_nil] at h3
    exact h3.mono hc hs
  refine ⟨U, ?_, .threw T.heap.size, hrun, hend, Or.inr ⟨T.heap.size, rfl, cls, ce, locs, hx U hWs.alike f1 (fun q hq => f2 q hq (fun z hz => nomatch hz)), hce, hO.vm, hcl, hWs, hall, hf⟩⟩
  refine st1 _ ?_
  show Steps p.tables e below (T1.setTop { method := m, pc := pc + 3, locals := ls, stack := .ref T.heap.size :: rest, locked := none }) _
  jvm_step X₁.here [X₁.here.top, hexec, d3', Value.category]
  exact hsteps
/-- 'throw new E("text")': new; dup; ldc; invokespecial; athrow -/
theorem vx_throwS {cc : ByteArray} {pc : Nat} (hexec : p.tables.exec = Jvm.exec) (hb : c.code = cc) (hl : l.stackTraces = false) {own cls text : String} {names : List String} {ik is ic mc ms sa : Nat} {A : Nat → Prop}
    (hown : s.vm.findClass own = some m.cls) (hcls : Bundle.fit cls = true) (hnames : ∀ n ∈ names, Bundle.fit n = true)
    (hk : (Cond.classLink own ik cls).before args s = true) (hini : (Cond.initialized cls).before args s = true) (hstr : vk_R own is text sa s) (hat : ∀ w ∈ vx_atS own ic cls names, w.before args s = true)
    (hgood : ∀ w ∈ Cond.classLink own ik cls :: Cond.initialized cls :: vx_atS own ic cls names, vx_ot w = true)
    (hU : vx_Zq Bundle.tN "UNASSIGNED_STACK" Bundle.steD A s s.heap) (hN : vx_Zq Bundle.tN "SUPPRESSED_SENTINEL" Bundle.listD A s s.heap) (hS : va_S A s.heap H locs) (hsize : ls.size = c.maxLocals)
    (d0 : decode cc pc = .ok (.new ik, 3)) (d3 : decode cc (pc + 3) = .ok (.dup, 1)) (d4 : decode cc (pc + 4) = .ok (.ldc is, 2)) (d6 : decode cc (pc + 6) = .ok (.invokespecial ic, 3)) (d9 : decode cc (pc + 9) = .ok (.athrow, 1))
    (hout : ∀ x ∈ c.exceptionTable.toList, covers x (pc + 9) = false)
    (hRframes : names.length + 3 < R.frames) (hRlocals : (rest.map fun v => v.category).sum + (13 * (names.length + 1) + 43) ≤ R.locals) (hRcells : cells + 1 ≤ R.cells) (hRslots : slots + 6 ≤ R.slots) (hlocks : meth.locks = false)
    (hx : ∀ t : State, s.vm.Alike t.vm → H.size ≤ t.heap.size → (∀ q : Nat, q < H.size → t.heap[q]? = H[q]?) → XC cls s t)
    (hf : ∀ z ∈ locs, free z.base) (hc : cells + 1 ≤ mc) (hs : slots + 6 ≤ ms) :
    W p l e R s m args below meth c H locs cells slots (vx_MQ below Qc XC args s mc ms free) (F0 m pc ls rest) := by
  intro T hT X
  have htr : e.platform.stackTraces = false := (show e.platform.stackTraces = l.stackTraces by rw [X.admits.platform]).trans hl
  have Y := vx_rebase X (R' := { frames := R.frames, locals := R.locals, cells := 1, slots := 6 }) (Nat.le_refl _) (Nat.le_refl _) hRcells hRslots
  obtain ⟨s', hA⟩ : ∃ z, z = (T.setVm s.vm).setFrames (.invoking m args :: below) := ⟨_, rfl⟩
  rw [← hA] at Y
  have hvm : s'.vm = s.vm := by rw [hA]; rfl
  have hhp : s'.heap = H := by rw [hA]; exact hT
  have hW0 : s.WarmedH s'.vm := by rw [hvm]; exact State.WarmedH.refl s
  have hat' : ∀ w ∈ vx_atS own ic cls names, w.before args s' = true := fun w hw => vx_ot_at hW0 hvm.symm (hgood w (List.mem_cons_of_mem _ (List.mem_cons_of_mem _ hw))) (hat w hw)
  have hk' : (Cond.classLink own ik cls).before args s' = true := vx_ot_at hW0 hvm.symm (hgood _ List.mem_cons_self) hk
  have hini' : (Cond.initialized cls).before args s' = true := vx_ot_at hW0 hvm.symm (hgood _ (List.mem_cons_of_mem _ List.mem_cons_self)) hini
  have hU' : vx_Zq Bundle.tN "UNASSIGNED_STACK" Bundle.steD A s' s'.heap := by rw [hhp]; exact vx_Zq.moved hW0.alike (hU.kept hS.2.1)
  have hN' : vx_Zq Bundle.tN "SUPPRESSED_SENTINEL" Bundle.listD A s' s'.heap := by rw [hhp]; exact vx_Zq.moved hW0.alike (hN.kept hS.2.1)
  have h : ∀ w ∈ Bundle.ownAtoms own ic cls names, w.before args s' = true := vx_own hat' (vx_isRefq hU'.1) (vx_isRefq hN'.1) hU'.2.word hN'.2.word
  have hown' : s'.vm.findClass own = some m.cls := by rw [hvm]; exact hown
  have hins : (Cond.instantiable cls 6).before args s' = true := h _ (by simp [Bundle.ownAtoms])
  obtain ⟨vm₁, cX, kX, hfX, hkX, -, -, X₁, st1⟩ := Y.newCold hexec (own := own) (C := cls) (index := ik) (n := 6) hown' hk' hins hini'
    (g := F0 m pc ls rest) rfl (by rw [hb]; exact d0) (Nat.le_refl _) (Nat.le_refl _)
  generalize hT1 : (T.setVm vm₁).pushCell { cls := cX, slots := kX.instanceTypes.map defaultValue, vm := .none } = T1 at X₁ st1
  have hcat : (Value.ref T.heap.size).category = 1 := rfl
  have hcellA : T1.heap[T.heap.size]? = some (freshCell cX kX) := by rw [← hT1]; exact State.heap_pushCell_size _ _
  have d3' : decode c.code (pc + 3) = .ok (.dup, 1) := by rw [hb]; exact d3
  have d4' : decode c.code (pc + 4) = .ok (.ldc is, 2) := by rw [hb]; exact d4
  have hstr' : vk_R own is text sa s' := vk_R.warm hW0 hstr
  obtain ⟨U, hsteps, hrun, hend, hW, hsame, ce, hce, hO⟩ := X₁.ctorThrowS hexec htr (own := own) (cls := cls) (names := names) (ic := ic) hown' hcls hnames h (fun x hx => nomatch hx) hfX hkX hcellA (by rw [hhp, hT]; exact Nat.le_refl _) (msg := .ref sa) rfl
    (g := { method := m, pc := pc + 6, locals := ls, stack := .ref sa :: .ref T.heap.size :: .ref T.heap.size :: rest, locked := none }) rfl hsize rfl rfl (rest := rest) rfl
    (by rw [hb]; exact d6) (by rw [hb]; exact d9) hout hRframes (by simp only [List.map_cons, List.sum_cons, hcat]; omega) hlocks
  obtain ⟨f1, f2⟩ := vx_frame hsame
  rw [hhp] at f1 f2
  have hWs : s.WarmedH U.vm := State.WarmedH.trans hW0 hW
  have hcl : s.vm.findClass cls = some ce.cls := by
    have h9 := hO.cls
    rw [hvm] at h9
    exact h9
  have hall : s.sameButNew ({ U with vm := s.vm } : State) locs mc ms := by
    subst hA
    obtain ⟨e1, e2⟩ := hsame
    rw [State.setFrames_setFrames] at e1
    have h2 : (T.setVm s.vm).sameButNew ({ U with vm := s.vm } : State) [] (0 + 1) (0 + 6) := ⟨e1, e2⟩
    have h3 := X.same.trans h2
    rw [List.append_nil] at h3
    exact h3.mono hc hs
  refine ⟨U, ?_, .threw T.heap.size, hrun, hend, Or.inr ⟨T.heap.size, rfl, cls, ce, locs, hx U hWs.alike f1 (fun q hq => f2 q hq (fun z hz => nomatch hz)), hce, hO.vm, hcl, hWs, hall, hf⟩⟩
  refine st1 _ ?_
  show Steps p.tables e below (T1.setTop { method := m, pc := pc + 3, locals := ls, stack := .ref T.heap.size :: rest, locked := none }) _
  jvm_step X₁.here [X₁.here.top, hexec, d3', Value.category]
  exact X₁.ldcString hexec (own := own) (text := text) (index := is) (a := sa) hown' hstr'.1 hstr'.2
    (g := { method := m, pc := pc + 4, locals := ls, stack := .ref T.heap.size :: .ref T.heap.size :: rest, locked := none }) rfl d4' _ hsteps
/-- 'throw new E("text")', the text by a wide index -/
theorem vx_throwSW {cc : ByteArray} {pc : Nat} (hexec : p.tables.exec = Jvm.exec) (hb : c.code = cc) (hl : l.stackTraces = false) {own cls text : String} {names : List String} {ik is ic mc ms sa : Nat} {A : Nat → Prop}
    (hown : s.vm.findClass own = some m.cls) (hcls : Bundle.fit cls = true) (hnames : ∀ n ∈ names, Bundle.fit n = true)
    (hk : (Cond.classLink own ik cls).before args s = true) (hini : (Cond.initialized cls).before args s = true) (hstr : vk_R own is text sa s) (hat : ∀ w ∈ vx_atS own ic cls names, w.before args s = true)
    (hgood : ∀ w ∈ Cond.classLink own ik cls :: Cond.initialized cls :: vx_atS own ic cls names, vx_ot w = true)
    (hU : vx_Zq Bundle.tN "UNASSIGNED_STACK" Bundle.steD A s s.heap) (hN : vx_Zq Bundle.tN "SUPPRESSED_SENTINEL" Bundle.listD A s s.heap) (hS : va_S A s.heap H locs) (hsize : ls.size = c.maxLocals)
    (d0 : decode cc pc = .ok (.new ik, 3)) (d3 : decode cc (pc + 3) = .ok (.dup, 1)) (d4 : decode cc (pc + 4) = .ok (.ldc_w is, 3)) (d7 : decode cc (pc + 7) = .ok (.invokespecial ic, 3)) (d10 : decode cc (pc + 10) = .ok (.athrow, 1))
    (hout : ∀ x ∈ c.exceptionTable.toList, covers x (pc + 10) = false)
    (hRframes : names.length + 3 < R.frames) (hRlocals : (rest.map fun v => v.category).sum + (13 * (names.length + 1) + 43) ≤ R.locals) (hRcells : cells + 1 ≤ R.cells) (hRslots : slots + 6 ≤ R.slots) (hlocks : meth.locks = false)
    (hx : ∀ t : State, s.vm.Alike t.vm → H.size ≤ t.heap.size → (∀ q : Nat, q < H.size → t.heap[q]? = H[q]?) → XC cls s t)
    (hf : ∀ z ∈ locs, free z.base) (hc : cells + 1 ≤ mc) (hs : slots + 6 ≤ ms) :
    W p l e R s m args below meth c H locs cells slots (vx_MQ below Qc XC args s mc ms free) (F0 m pc ls rest) := by
  intro T hT X
  have htr : e.platform.stackTraces = false := (show e.platform.stackTraces = l.stackTraces by rw [X.admits.platform]).trans hl
  have Y := vx_rebase X (R' := { frames := R.frames, locals := R.locals, cells := 1, slots := 6 }) (Nat.le_refl _) (Nat.le_refl _) hRcells hRslots
  obtain ⟨s', hA⟩ : ∃ z, z = (T.setVm s.vm).setFrames (.invoking m args :: below) := ⟨_, rfl⟩
  rw [← hA] at Y
  have hvm : s'.vm = s.vm := by rw [hA]; rfl
  have hhp : s'.heap = H := by rw [hA]; exact hT
  have hW0 : s.WarmedH s'.vm := by rw [hvm]; exact State.WarmedH.refl s
  have hat' : ∀ w ∈ vx_atS own ic cls names, w.before args s' = true := fun w hw => vx_ot_at hW0 hvm.symm (hgood w (List.mem_cons_of_mem _ (List.mem_cons_of_mem _ hw))) (hat w hw)
  have hk' : (Cond.classLink own ik cls).before args s' = true := vx_ot_at hW0 hvm.symm (hgood _ List.mem_cons_self) hk
  have hini' : (Cond.initialized cls).before args s' = true := vx_ot_at hW0 hvm.symm (hgood _ (List.mem_cons_of_mem _ List.mem_cons_self)) hini
  have hU' : vx_Zq Bundle.tN "UNASSIGNED_STACK" Bundle.steD A s' s'.heap := by rw [hhp]; exact vx_Zq.moved hW0.alike (hU.kept hS.2.1)
  have hN' : vx_Zq Bundle.tN "SUPPRESSED_SENTINEL" Bundle.listD A s' s'.heap := by rw [hhp]; exact vx_Zq.moved hW0.alike (hN.kept hS.2.1)
  have h : ∀ w ∈ Bundle.ownAtoms own ic cls names, w.before args s' = true := vx_own hat' (vx_isRefq hU'.1) (vx_isRefq hN'.1) hU'.2.word hN'.2.word
  have hown' : s'.vm.findClass own = some m.cls := by rw [hvm]; exact hown
  have hins : (Cond.instantiable cls 6).before args s' = true := h _ (by simp [Bundle.ownAtoms])
  obtain ⟨vm₁, cX, kX, hfX, hkX, -, -, X₁, st1⟩ := Y.newCold hexec (own := own) (C := cls) (index := ik) (n := 6) hown' hk' hins hini'
    (g := F0 m pc ls rest) rfl (by rw [hb]; exact d0) (Nat.le_refl _) (Nat.le_refl _)
  generalize hT1 : (T.setVm vm₁).pushCell { cls := cX, slots := kX.instanceTypes.map defaultValue, vm := .none } = T1 at X₁ st1
  have hcat : (Value.ref T.heap.size).category = 1 := rfl
  have hcellA : T1.heap[T.heap.size]? = some (freshCell cX kX) := by rw [← hT1]; exact State.heap_pushCell_size _ _
  have d3' : decode c.code (pc + 3) = .ok (.dup, 1) := by rw [hb]; exact d3
  have d4' : decode c.code (pc + 4) = .ok (.ldc_w is, 3) := by rw [hb]; exact d4
  have hstr' : vk_R own is text sa s' := vk_R.warm hW0 hstr
  obtain ⟨U, hsteps, hrun, hend, hW, hsame, ce, hce, hO⟩ := X₁.ctorThrowS hexec htr (own := own) (cls := cls) (names := names) (ic := ic) hown' hcls hnames h (fun x hx => nomatch hx) hfX hkX hcellA (by rw [hhp, hT]; exact Nat.le_refl _) (msg := .ref sa) rfl
    (g := { method := m, pc := pc + 7, locals := ls, stack := .ref sa :: .ref T.heap.size :: .ref T.heap.size :: rest, locked := none }) rfl hsize rfl rfl (rest := rest) rfl
    (by rw [hb]; exact d7) (by rw [hb]; exact d10) hout hRframes (by simp only [List.map_cons, List.sum_cons, hcat]; omega) hlocks
  obtain ⟨f1, f2⟩ := vx_frame hsame
  rw [hhp] at f1 f2
  have hWs : s.WarmedH U.vm := State.WarmedH.trans hW0 hW
  have hcl : s.vm.findClass cls = some ce.cls := by
    have h9 := hO.cls
    rw [hvm] at h9
    exact h9
  have hall : s.sameButNew ({ U with vm := s.vm } : State) locs mc ms := by
    subst hA
    obtain ⟨e1, e2⟩ := hsame
    rw [State.setFrames_setFrames] at e1
    have h2 : (T.setVm s.vm).sameButNew ({ U with vm := s.vm } : State) [] (0 + 1) (0 + 6) := ⟨e1, e2⟩
    have h3 := X.same.trans h2
    rw [List.append_nil] at h3
    exact h3.mono hc hs
  refine ⟨U, ?_, .threw T.heap.size, hrun, hend, Or.inr ⟨T.heap.size, rfl, cls, ce, locs, hx U hWs.alike f1 (fun q hq => f2 q hq (fun z hz => nomatch hz)), hce, hO.vm, hcl, hWs, hall, hf⟩⟩
  refine st1 _ ?_
  show Steps p.tables e below (T1.setTop { method := m, pc := pc + 3, locals := ls, stack := .ref T.heap.size :: rest, locked := none }) _
  jvm_step X₁.here [X₁.here.top, hexec, d3', Value.category]
  exact X₁.ldcStringW hexec (own := own) (text := text) (index := is) (a := sa) hown' hstr'.1 hstr'.2
    (g := { method := m, pc := pc + 4, locals := ls, stack := .ref T.heap.size :: .ref T.heap.size :: rest, locked := none }) rfl d4' _ hsteps
end Ends
section Bodies
variable {l : Launch}
theorem vx_ofW {y : MethodName} {ws ws' : List Cond} {rm : Room} {Pc : Array Value → State → Prop} {Qc : Array Value → State → Outcome → State → Prop} {XC : String → State → State → Prop} {mc ms : Nat} {free : Addr → Prop} {cc : ByteArray} {maxL : Nat} {ret : Option FieldType}
    (hy : plainName y.cls = true) (hw : ws = Cond.code y cc maxL ret :: ws')
    (body : ∀ p e s m args below meth c s₁, BodyLoose p l y (headSpec ws rm) cc maxL ret e s m args below meth c s₁ → c.maxLocals = maxL → (∀ x ∈ c.exceptionTable.toList, False) → Pc args s →
      W p l e (headSpec ws rm).room s m args below meth c s.heap [] 0 0 (vx_MQ below Qc XC args s mc ms free) (entryFrame m args maxL)) : vx_Met l y ws rm Pc Qc XC mc ms free := by
  refine MetFree.of_bodyS (code := cc) (maxLocals := maxL) (ret := ret) hy ?_ ?_
  · intro args s m h hn
    obtain ⟨meth, c, h1, h2, h3, h4, h5, h6, -, -⟩ := Cond.code_spec hn (atoms_spec (ws := ws) h _ (by rw [hw]; exact List.mem_cons_self))
    exact ⟨meth, c, h1, h2, h3, h4, h5, h6⟩
  · intro p e s m args below meth c s₁ B hml hP _
    have hh0 : s₁.heap = s.heap := by rw [B.state]; rfl
    have ht : ∀ x ∈ c.exceptionTable.toList, False := by
      obtain ⟨meth9, c9, h1, h2, -, -, -, -, h7, -⟩ := Cond.code_spec B.named (atoms_spec (ws := ws) B.pre _ (by rw [hw]; exact List.mem_cons_self))
      cases Option.some.inj (h1.symm.trans B.method)
      cases Option.some.inj (h2.symm.trans (Stand.of_body B).code)
      intro x hx
      rw [Array.isEmpty_iff.mp h7] at hx
      cases hx
    obtain ⟨t, a1, o, b1, b2, b3⟩ := body p e s m args below meth c s₁ B hml ht hP s₁ hh0 (Stand.of_body B)
    exact ⟨t, o, a1, b1, b2, b3⟩
/-- the table of a body with handlers -/
theorem vx_table {p : Program} {x y : MethodName} {S : Spec} {cc bytes : ByteArray} {maxL maxL' : Nat} {ret ret' : Option FieldType} {e : Env} {s s₁ : State} {m : MethodId} {args : Array Value} {below : List Frame} {meth : Method} {c : Code} {hh : List (Nat × Nat × Nat × Nat)}
    (B : BodyLoose p l y S cc maxL ret e s m args below meth c s₁) (h : (Cond.codeWith y bytes maxL' ret' hh).before args s = true) : c.exceptionTable.toList = tableOf hh := by
  obtain ⟨m9, meth9, c9, hn9, h1, h2, -, -, h6, -⟩ := Cond.codeWith_spec h
  cases Option.some.inj (hn9.symm.trans B.named)
  cases Option.some.inj (h1.symm.trans B.method)
  cases Option.some.inj (h2.symm.trans (Stand.of_body B).code)
  rw [← h6, table_eq]
end Bodies
end VXA
/-! ===== END ===== -/
/-! ===== BEGIN a static call of a method with an exception table ===== -/
section VXS
variable {p : Program} {l : Launch} {e : Env} {R : Room} {s : State} {m : MethodId} {args : Array Value} {below : List Frame} {meth : Method} {c : Code} {T : State} {H : Heap} {locs : List Loc} {cells slots : Nat}
abbrev vx_CSW (R : Room) (s : State) (args : Array Value) (own : String) (index : Nat) (y : MethodName) (bytes : ByteArray) (maxL : Nat) (ret : Option FieldType) (hh : List (Nat × Nat × Nat × Nat)) (ws : List Cond) (rm : Room) (mc ms n : Nat) : Prop :=
  (rm.cells = mc ∧ rm.slots = ms ∧ rm.frames + 1 ≤ R.frames ∧ 8 + (maxL + 11) + rm.locals ≤ R.locals ∧ (∀ w ∈ ws, ∀ (a' : Array Value) (U : State), s.WarmedH U.vm → w.before a' U = true) ∧ Cond.codeWith y bytes maxL ret hh ∈ ws) ∧
  (Cond.codeWith y bytes maxL ret hh).before args s = true ∧ (Cond.initialized y.cls).before args s = true ∧ (y.cls ≠ "java/lang/invoke/MethodHandle" ∧ y.cls ≠ "java/lang/invoke/VarHandle") ∧
  (∀ sig, parseMethodDescriptor y.desc = some sig → n = sig.parameters.length) ∧ (Cond.methodLink own index y).before args s = true ∧ (Cond.static y).before args s = true
theorem vx_cwSW {own : String} {index maxL mc ms : Nat} {y : MethodName} {bytes : ByteArray} {ret : Option FieldType} {hh : List (Nat × Nat × Nat × Nat)} {Ts ws ws' : List Cond} {rm : Room} (n : Nat) (ht : ∀ w ∈ Ts, w.before args s = true) (hT : GoodIn Ts (va_wsS own index y ws)) (hw : ws = Cond.codeWith y bytes maxL ret hh :: ws') (hrc : rm.cells = mc) (hrs : rm.slots = ms)
    (hd : y.cls ≠ "java/lang/invoke/MethodHandle" ∧ y.cls ≠ "java/lang/invoke/VarHandle" ∧ (parseMethodDescriptor y.desc).map (fun d => d.parameters.length) = some n) (hR : rm.frames + 1 ≤ R.frames ∧ 8 + (maxL + 11) + rm.locals ≤ R.locals) :
    vx_CSW R s args own index y bytes maxL ret hh ws rm mc ms n := by
  have ok : ∀ w ∈ va_wsS own index y ws, w.before args s = true := fun w h => ht w (hT w h).1
  have hG : GoodIn Ts ws := fun w h => hT w (by unfold va_wsS; exact List.mem_append_right _ h)
  have hc : Cond.codeWith y bytes maxL ret hh ∈ ws := by rw [hw]; exact List.mem_cons_self
  refine ⟨⟨hrc, hrs, hR.1, hR.2, pay_in ht hG, hc⟩, ht _ (hG _ hc).1, ok _ (by simp [va_wsS]), ⟨hd.1, hd.2.1⟩, fun sig h => ?_, ok _ (by simp [va_wsS]), ok _ (by simp [va_wsS])⟩
  have h2 := hd.2.2
  rw [h] at h2
  exact (Option.some.inj h2).symm
theorem vx_callSW (X : Stand p l e R s m args below meth c T locs cells slots) (hexec : p.tables.exec = Jvm.exec) {own : String} {index : Nat} {y : MethodName} {bytes : ByteArray} {maxL : Nat} {ret : Option FieldType} {hh : List (Nat × Nat × Nat × Nat)}
    (hown : s.vm.findClass own = some m.cls) (hlink : (Cond.methodLink own index y).before args s = true) (hstat : (Cond.static y).before args s = true) (hinit : (Cond.initialized y.cls).before args s = true)
    (hcode : (Cond.codeWith y bytes maxL ret hh).before args s = true) (hy : y.cls ≠ "java/lang/invoke/MethodHandle" ∧ y.cls ≠ "java/lang/invoke/VarHandle")
    {W9 : Nat} {Pre : Pt → Array Value → Prop} {Post : Pt → Array Value → Option Value → Pt → Prop} (hK : Back l R p e below s args y 3 W9 Pre Post)
    {g : JFrame} (hg : g.method = m) (hsize : g.locals.size = c.maxLocals) {argsL rest : List Value} (hlen : ∀ sig, parseMethodDescriptor y.desc = some sig → argsL.length = sig.parameters.length)
    (hstack : g.stack = argsL.reverse ++ rest) (hW : 2 * g.monitorRoom + (rest.map fun v => v.category).sum ≤ W9) (hdg : decode c.code g.pc = .ok (.invokestatic index, 3))
    (hpre : ∀ vm₁, s.WarmedH vm₁ → Pre ⟨T.setVm vm₁, locs, cells, slots⟩ argsL.toArray) :
    ∃ (v : Option Value) (vm₁ : Vm) (B : Pt), s.WarmedH vm₁ ∧ Stand p l e R s m args below meth c B.U B.locs B.cells B.slots ∧ Post ⟨T.setVm vm₁, locs, cells, slots⟩ argsL.toArray v B ∧
      ∀ target, Steps p.tables e below (B.U.setTop { g with pc := g.pc + 3, stack := v.toList ++ rest }) target → Steps p.tables e below (T.setTop g) target := by
  obtain ⟨mk, methM, cM, hnamed, hmethM, -, -, -, -, -, -, hsigM⟩ := Cond.codeWith_spec hcode
  have hstatic : methM.isStatic = true := Cond.static_spec hnamed hmethM hstat
  obtain ⟨kP, hkP, -⟩ := className_of_methodNamed hnamed
  have hinitP : kP.init = .initialized := Cond.initialized_spec (findClass_of_methodNamed hnamed) hkP hinit
  obtain ⟨vm₁, X₁, hstep₁⟩ := X.invokestatic hexec hown hlink hnamed hmethM hstatic hkP hinitP hy (g := g) hg (argsL := argsL) (rest := rest) (hlen _ hsigM) hstack hdg
  obtain ⟨v, B, X', hpost, hsteps⟩ := hK m meth c ⟨T.setVm vm₁, locs, cells, slots⟩ { g with stack := rest } (.invokestatic index) mk argsL.toArray X₁ hg hsize hdg hW (X₁.named hnamed) (hpre vm₁ X₁.warmed)
  exact ⟨v, vm₁, B, X₁.warmed, X', hpost, fun target h => hstep₁ _ fun acts => by rw [doInvoke_state]; exact hsteps.trans h⟩
theorem vx_runSW {y : MethodName} {bytes cc : ByteArray} {maxL nL mc ms n index : Nat} {ret : Option FieldType} {hh : List (Nat × Nat × Nat × Nat)} {ws : List Cond} {rm : Room} {Pc : Array Value → State → Prop} {Qc : Array Value → State → Outcome → State → Prop} {free : Addr → Prop} {Ts : List Cond} {own : String} {As rest : List Value} {g : JFrame}
    (S : CallFix p m c cc nL s args Ts own) (hM : Met l y ws rm Pc Qc mc ms free) (cw : vx_CSW R s args own index y bytes maxL ret hh ws rm mc ms n) (hp : PreS s H Pc As)
    (hg : g.method = m) (hn : As.length = n) (hsize : g.locals.size = nL) (hstack : g.stack = As.reverse ++ rest) (hW : 2 * g.monitorRoom + (rest.map fun v => v.category).sum ≤ 8) (hdg : decode cc g.pc = .ok (.invokestatic index, 3)) (hf : cells + mc ≤ R.cells ∧ slots + ms ≤ R.slots) :
    va_Run p l e R s m args below meth c H locs cells slots mc ms g rest (Qc As.toArray) (free) := by
  obtain ⟨⟨hrc, hrs, hfr, hlo, hws, hcw⟩, hcode, hini, hy, hlen, hl, hstt⟩ := cw
  have hK : Back l R p e below s args y 3 8 (PreOf R mc ms Pc) (PostOf Qc mc ms free) := va_backW (hh := hh) (bytes := bytes) (maxL := maxL) (ret := ret) hM hp.1 hrc hrs hfr hlo hws hcw (fun a' U hW => word_at hW (Or.inl (by first | rfl | simp [Cond.onTables, Cond.keeps, Cond.steady])) hini)
  obtain ⟨hx, hb, hml, ho, -⟩ := S
  intro T hT X
  obtain ⟨v, vm₁, ⟨U', l2, c2, s2⟩, hW₁, X', ⟨g', mk, t, L, e1, e2, hq, h1, hL, h2, h3⟩, st⟩ := vx_callSW X hx (hh := hh) (bytes := bytes) (maxL := maxL) (ret := ret) ho hl hstt hini hcode hy hK hg (hsize.trans hml.symm) (argsL := As) (rest := rest) (fun sig h => hn.trans (hlen sig h)) hstack hW (by rw [hb]; exact hdg)
    (fun vm₁ hW₁ => ⟨hf.1, hf.2, hp.2 (T.setVm vm₁) hT hW₁⟩)
  dsimp only [Pt.U, Pt.locs, Pt.cells, Pt.slots] at X' e1 e2 h1 h2 h3 st
  subst h1; subst h2; subst h3
  exact ⟨v, (T.setVm vm₁).calling g' mk As.toArray, t, U', L, hT, X', hL, e1, e2, hq, st⟩
/-- a thing of a world lies in the heap -/
theorem vx_lt {D : va_G} {cl : List vw_C} {ws : va_W} {H1 : Heap} (h : va_P D cl ws H1) {k : Nat} {q : Nat × va_E} (hk : ws[k]? = some q) : q.1 < H1.size := (h k q hk).lt
end VXS
/-! ===== END ===== -/
/-! ===== BEGIN methods with a table of their own: called by a name, returning or throwing ===== -/
section VXH
/-! vx_backW, vx_callVX, vx_callSX, vx_callVW, vx_runVW, vx_runVX, vx_runSX, vx_ofWH follow the same proofs as their sisters above (Free/Laws.lean, Shelf42/LK1.lean); vx_outP calls Shelf42/NT130.lean (outThrough). -/
section
variable {l : Launch} {R : Room} {p : Program} {e : Env} {below : List Frame} {s : State} {sargs : Array Value} {y : MethodName} {len W9 : Nat}
theorem vx_backW {ws : List Cond} {rm : Room} {Pc : Array Value → State → Prop} {Qc : Array Value → State → Outcome → State → Prop} {XC : String → State → State → Prop} {mc ms : Nat} {free : Addr → Prop} {bytes : ByteArray} {maxL : Nat} {ret : Option FieldType} {hh : List (Nat × Nat × Nat × Nat)}
    (hM : vx_Met l y ws rm Pc Qc XC mc ms free) (hblind : FrameBlind Pc) (hrc : rm.cells = mc) (hrs : rm.slots = ms)
    (hframes : rm.frames + 1 ≤ R.frames) (hlocals : W9 + (maxL + 11) + rm.locals ≤ R.locals)
    (hws : ∀ w ∈ ws, ∀ a' U, s.WarmedH U.vm → w.before a' U = true) (hcode : Cond.codeWith y bytes maxL ret hh ∈ ws) (hinit : ∀ a' U, s.WarmedH U.vm → (Cond.initialized y.cls).before a' U = true) :
    vx_Back l R p e below s sargs y len W9 (PreOf R mc ms Pc) (PostOf Qc mc ms free) (vx_Post XC mc ms free) := by
  intro m meth c A g ig mk a X hg hsize hdg hW hn hp
  have h1 : (headSpec ws rm).pre.before a A.U = true := atoms_intro fun w hw => hws w hw _ _ X.warmed
  have h2 : (Cond.codeWith y bytes maxL ret hh).before a A.U = true := hws _ hcode _ _ X.warmed
  have h3 : (Cond.initialized y.cls).before a A.U = true := hinit _ _ X.warmed
  have h4 : A.cells + (headSpec ws rm).room.cells ≤ R.cells := by rw [show (headSpec ws rm).room.cells = mc from hrc]; exact hp.1
  have h5 : A.slots + (headSpec ws rm).room.slots ≤ R.slots := by rw [show (headSpec ws rm).room.slots = ms from hrs]; exact hp.2.1
  have hPc : Pc a (A.U.calling g mk a) := hblind _ _ _ _ hp.2.2
  obtain ⟨U, Ls, c0, s0⟩ := A
  dsimp only [Pt.U, Pt.locs, Pt.cells, Pt.slots] at h1 h2 h3 h4 h5 X hn hPc ⊢
  obtain ⟨m9, methY, cY, hn9, hmY, hcY, -, hlY, -⟩ := Cond.codeWith_spec h2
  cases Option.some.inj (hn9.symm.trans hn)
  obtain ⟨kY, hkY, -⟩ := className_of_methodNamed hn
  have hinitY : kY.init = .initialized := Cond.initialized_spec (findClass_of_methodNamed hn) hkY h3
  have h : At U g.method c below := by rw [hg]; exact X.here
  have hlocals9 : W9 + (maxL + 11) + (headSpec ws rm).room.locals ≤ R.locals := hlocals
  have happ : (headSpec ws rm).appliesLoose y e.platform (U.calling g mk a) = true :=
    Spec.appliesLoose_calling (g := g) h hdg hn hkY hinitY
      (X.room_calling (g := g) (R' := (headSpec ws rm).room) hsize hmY hcY hframes (by rw [hlY]; omega) h4 h5) h1
  obtain ⟨mid, hmid⟩ := h.above
  have hfr : (U.setTop g).frames = (.java g :: mid) ++ below := by rw [State.frames_setTop' g h.top, hmid]; rfl
  obtain ⟨o, s₂, hsteps, -, hend, hq⟩ := Steps.callFree hM p X.admits X.cas X.clock (acts := []) hfr happ hPc trivial
  have hq' : vx_Q Qc XC mc ms free a (U.calling g mk a) o s₂ := hq
  rw [State.frames_setTop' g h.top] at hend
  obtain ⟨g₀, hg0⟩ := Option.isSome_iff_exists.mp h.top
  obtain ⟨r, hr⟩ := State.topJava?_eq_some.mp hg0
  have hr' : (({ U with heap := s₂.heap, slotsUsed := s₂.slotsUsed } : State).setVm s₂.vm).frames = .java g₀ :: r := hr
  rcases hq' with ⟨hqc, L, hfe, hL⟩ | ⟨q, rfl, E, ce, L, hx, hce, hcv, hcl, hW₂, hsm, hL⟩
  · obtain ⟨⟨v, rfl⟩, hW₂, e2, q2, q3, q4, q5, q6⟩ := id hfe
    have e3 : s₂ = ({ (U.calling g mk a).setFrames s₂.frames with heap := s₂.heap, slotsUsed := s₂.slotsUsed } : State).setVm s₂.vm := by
      have : s₂ = ({ s₂ with vm := (U.calling g mk a).vm } : State).setVm s₂.vm := rfl
      rw [e2] at this
      exact this
    obtain ⟨c₂, i₂, len₂, hc₂, hd₂, hf₂⟩ := hend
    have hW' : U.WarmedH s₂.vm := hW₂
    have hcc : c₂ = c := by
      have h1 : s₂.code? g.method = U.code? g.method := by
        rw [State.code?_eq, State.code?_eq, hW'.alike.method?]
      exact Option.some.inj (hc₂.symm.trans (h1.trans h.code))
    subst hcc
    have hlen : len₂ = len := by rw [hdg] at hd₂; cases hd₂; rfl
    subst hlen
    have hs₂ : s₂ = (({ U with heap := s₂.heap, slotsUsed := s₂.slotsUsed } : State).setVm s₂.vm).setTop { g with pc := g.pc + len₂, stack := v.toList ++ g.stack } := by
      refine e3.trans ?_
      rw [hf₂, State.calling_eq h.top, State.setFrames_setFrames, State.setTop_of_frames _ hr', hr]
      rfl
    have hsame : U.sameButNew ({ U with heap := s₂.heap, slotsUsed := s₂.slotsUsed } : State) L mc ms := by
      refine ⟨?_, q2, q3, q4, q5, q6⟩
      obtain ⟨t, ht, -⟩ := State.frames_cons hr
      show ({ U with heap := s₂.heap, slotsUsed := s₂.slotsUsed } : State) = { U.setFrames U.frames with heap := s₂.heap, slotsUsed := s₂.slotsUsed }
      rw [State.setFrames_self ht]
    subst hg
    refine Or.inl ⟨v, ⟨(({ U with heap := s₂.heap, slotsUsed := s₂.slotsUsed } : State).setVm s₂.vm), Ls ++ L, c0 + mc, s0 + ms⟩,
      ⟨X.admits, X.cas, X.clock, X.frames, X.room, X.hears, X.method, X.code, (X.here.setHeapUsed s₂.heap s₂.slotsUsed).setVm hW'.alike, X.tail, State.WarmedH.trans X.warmed hW', X.limits, X.bytes, X.same.trans (hsame.setVm s.vm)⟩,
      ⟨g, mk, s₂, L, rfl, rfl, hqc, rfl, hL, rfl, rfl⟩, ?_⟩
    show Steps p.tables e below _ ((({ U with heap := s₂.heap, slotsUsed := s₂.slotsUsed } : State).setVm s₂.vm).setTop { g with pc := g.pc + len₂, stack := v.toList ++ g.stack })
    rw [← hs₂]
    exact hsteps
  · obtain ⟨e2, q2, q3, q4, q5, q6⟩ := id hsm
    have e3 : s₂ = ({ (U.calling g mk a).setFrames s₂.frames with heap := s₂.heap, slotsUsed := s₂.slotsUsed } : State).setVm s₂.vm := by
      have : s₂ = ({ s₂ with vm := (U.calling g mk a).vm } : State).setVm s₂.vm := rfl
      rw [e2] at this
      exact this
    have hf₂ : s₂.frames = .throwing q :: .java g :: U.frames.tail := hend
    have hW' : U.WarmedH s₂.vm := hW₂
    have hs₂ : s₂ = ((({ U with heap := s₂.heap, slotsUsed := s₂.slotsUsed } : State).setVm s₂.vm).setTop g).pushFrame (.throwing q) := by
      refine e3.trans ?_
      rw [hf₂, State.calling_eq h.top, State.setFrames_setFrames, State.pushFrame, State.frames_setTop _ hr', State.setTop_of_frames _ hr', State.setFrames_setFrames, hr]
      rfl
    have hsame : U.sameButNew ({ U with heap := s₂.heap, slotsUsed := s₂.slotsUsed } : State) L mc ms := by
      refine ⟨?_, q2, q3, q4, q5, q6⟩
      obtain ⟨t, ht, -⟩ := State.frames_cons hr
      show ({ U with heap := s₂.heap, slotsUsed := s₂.slotsUsed } : State) = { U.setFrames U.frames with heap := s₂.heap, slotsUsed := s₂.slotsUsed }
      rw [State.setFrames_self ht]
    subst hg
    refine Or.inr ⟨q, ⟨(({ U with heap := s₂.heap, slotsUsed := s₂.slotsUsed } : State).setVm s₂.vm), Ls ++ L, c0 + mc, s0 + ms⟩,
      ⟨X.admits, X.cas, X.clock, X.frames, X.room, X.hears, X.method, X.code, (X.here.setHeapUsed s₂.heap s₂.slotsUsed).setVm hW'.alike, X.tail, State.WarmedH.trans X.warmed hW', X.limits, X.bytes, X.same.trans (hsame.setVm s.vm)⟩,
      ⟨g, mk, s₂, L, E, ce, rfl, rfl, hx, hce, hcv, hcl, rfl, hL, rfl, rfl⟩, ?_⟩
    show Steps p.tables e below _ (((({ U with heap := s₂.heap, slotsUsed := s₂.slotsUsed } : State).setVm s₂.vm).setTop g).pushFrame (.throwing q))
    rw [← hs₂]
    exact hsteps
end
variable {p : Program} {l : Launch} {e : Env} {R : Room} {s : State} {m : MethodId} {args : Array Value} {below : List Frame} {meth : Method} {c : Code} {T : State} {H : Heap} {locs : List Loc} {cells slots : Nat}
theorem vx_callVX (X : Stand p l e R s m args below meth c T locs cells slots) (hexec : p.tables.exec = Jvm.exec) {own C : String} {index : Nat} {y : MethodName} {bytes : ByteArray} {maxL : Nat} {ret : Option FieldType} {hh : List (Nat × Nat × Nat × Nat)}
    (hown : s.vm.findClass own = some m.cls) (hlink : (Cond.methodLink own index y).before args s = true) (hinst : (Cond.instanceMethod y).before args s = true) (hsel : (Cond.selects C y y).before args s = true)
    (hcode : (Cond.codeWith y bytes maxL ret hh).before args s = true) (hy : y.cls ≠ "java/lang/invoke/MethodHandle" ∧ y.cls ≠ "java/lang/invoke/VarHandle")
    {W9 : Nat} {Pre : Pt → Array Value → Prop} {Post : Pt → Array Value → Option Value → Pt → Prop} {PostX : Pt → Array Value → Addr → Pt → Prop} (hK : vx_Back l R p e below s args y 3 W9 Pre Post PostX)
    {b : Addr} {cellB : Cell} (hcell : T.heap[b]? = some cellB) (hobj : cellB.vm.isStatics = false) (hcls : s.vm.findClass C = some cellB.cls)
    {g : JFrame} (hg : g.method = m) (hsize : g.locals.size = c.maxLocals) {argsL rest : List Value} (hlen : ∀ sig, parseMethodDescriptor y.desc = some sig → argsL.length = sig.parameters.length)
    (hstack : g.stack = argsL.reverse ++ .ref b :: rest) (hW : 2 * g.monitorRoom + (rest.map fun v => v.category).sum ≤ W9) (hdg : decode c.code g.pc = .ok (.invokevirtual index, 3))
    (hpre : ∀ vm₁, s.WarmedH vm₁ → Pre ⟨T.setVm vm₁, locs, cells, slots⟩ (Value.ref b :: argsL).toArray) :
    (∃ (v : Option Value) (vm₁ : Vm) (B : Pt), s.WarmedH vm₁ ∧ Stand p l e R s m args below meth c B.U B.locs B.cells B.slots ∧ Post ⟨T.setVm vm₁, locs, cells, slots⟩ (Value.ref b :: argsL).toArray v B ∧
      ∀ target, Steps p.tables e below (B.U.setTop { g with pc := g.pc + 3, stack := v.toList ++ rest }) target → Steps p.tables e below (T.setTop g) target) ∨
    (∃ (q : Addr) (vm₁ : Vm) (B : Pt), s.WarmedH vm₁ ∧ Stand p l e R s m args below meth c B.U B.locs B.cells B.slots ∧ PostX ⟨T.setVm vm₁, locs, cells, slots⟩ (Value.ref b :: argsL).toArray q B ∧
      Steps p.tables e below (T.setTop g) ((B.U.setTop { g with stack := rest }).pushFrame (.throwing q))) := by
  obtain ⟨mk, methM, hnamed, hmethM, hstM, habM⟩ := Cond.instanceMethod_spec hinst
  obtain ⟨m8, methM', cM, hn8, hmethM', -, -, -, -, -, -, hsigM⟩ := Cond.codeWith_spec hcode
  cases Option.some.inj (hn8.symm.trans hnamed)
  cases hmethM.symm.trans hmethM'
  obtain ⟨c2, r2, m2, q1, q2, q3, q4, kP, hkP, hkPi⟩ := Cond.selects_spec hsel
  cases hcls.symm.trans q1
  cases (State.methodFound?_of_named hnamed hy).symm.trans q2
  cases hnamed.symm.trans q3
  have hselP : selectMethod e.platform s.vm cellB.cls mk = .method mk := by rw [Launch.admits_selectMethod X.admits]; exact q4
  obtain ⟨vm₁, X₁, hstep₁⟩ := X.invokevirtual hexec hown hlink hnamed hmethM hstM hkP hkPi hy (a := b) (cell := cellB) hcell
    (fun z h => by rw [h] at hobj; cases hobj) hselP hmethM habM hkP hkPi (g := g) hg (argsL := argsL) (rest := rest) (hlen _ hsigM) hstack hdg
  rcases hK m meth c ⟨T.setVm vm₁, locs, cells, slots⟩ { g with stack := rest } (.invokevirtual index) mk (Value.ref b :: argsL).toArray X₁ hg hsize hdg hW (X₁.named hnamed) (hpre vm₁ X₁.warmed) with ⟨v, B, X', hpost, hsteps⟩ | ⟨q, B, X', hpost, hsteps⟩
  · exact Or.inl ⟨v, vm₁, B, X₁.warmed, X', hpost, fun target h => hstep₁ _ fun acts => by rw [doInvoke_state]; exact hsteps.trans h⟩
  · exact Or.inr ⟨q, vm₁, B, X₁.warmed, X', hpost, hstep₁ _ fun acts => by rw [doInvoke_state]; exact hsteps⟩
theorem vx_callSX (X : Stand p l e R s m args below meth c T locs cells slots) (hexec : p.tables.exec = Jvm.exec) {own : String} {index : Nat} {y : MethodName} {bytes : ByteArray} {maxL : Nat} {ret : Option FieldType} {hh : List (Nat × Nat × Nat × Nat)}
    (hown : s.vm.findClass own = some m.cls) (hlink : (Cond.methodLink own index y).before args s = true) (hstat : (Cond.static y).before args s = true) (hinit : (Cond.initialized y.cls).before args s = true)
    (hcode : (Cond.codeWith y bytes maxL ret hh).before args s = true) (hy : y.cls ≠ "java/lang/invoke/MethodHandle" ∧ y.cls ≠ "java/lang/invoke/VarHandle")
    {W9 : Nat} {Pre : Pt → Array Value → Prop} {Post : Pt → Array Value → Option Value → Pt → Prop} {PostX : Pt → Array Value → Addr → Pt → Prop} (hK : vx_Back l R p e below s args y 3 W9 Pre Post PostX)
    {g : JFrame} (hg : g.method = m) (hsize : g.locals.size = c.maxLocals) {argsL rest : List Value} (hlen : ∀ sig, parseMethodDescriptor y.desc = some sig → argsL.length = sig.parameters.length)
    (hstack : g.stack = argsL.reverse ++ rest) (hW : 2 * g.monitorRoom + (rest.map fun v => v.category).sum ≤ W9) (hdg : decode c.code g.pc = .ok (.invokestatic index, 3))
    (hpre : ∀ vm₁, s.WarmedH vm₁ → Pre ⟨T.setVm vm₁, locs, cells, slots⟩ argsL.toArray) :
    (∃ (v : Option Value) (vm₁ : Vm) (B : Pt), s.WarmedH vm₁ ∧ Stand p l e R s m args below meth c B.U B.locs B.cells B.slots ∧ Post ⟨T.setVm vm₁, locs, cells, slots⟩ argsL.toArray v B ∧
      ∀ target, Steps p.tables e below (B.U.setTop { g with pc := g.pc + 3, stack := v.toList ++ rest }) target → Steps p.tables e below (T.setTop g) target) ∨
    (∃ (q : Addr) (vm₁ : Vm) (B : Pt), s.WarmedH vm₁ ∧ Stand p l e R s m args below meth c B.U B.locs B.cells B.slots ∧ PostX ⟨T.setVm vm₁, locs, cells, slots⟩ argsL.toArray q B ∧
      Steps p.tables e below (T.setTop g) ((B.U.setTop { g with stack := rest }).pushFrame (.throwing q))) := by
  obtain ⟨mk, methM, cM, hnamed, hmethM, -, -, -, -, -, -, hsigM⟩ := Cond.codeWith_spec hcode
  have hstatic : methM.isStatic = true := Cond.static_spec hnamed hmethM hstat
  obtain ⟨kP, hkP, -⟩ := className_of_methodNamed hnamed
  have hinitP : kP.init = .initialized := Cond.initialized_spec (findClass_of_methodNamed hnamed) hkP hinit
  obtain ⟨vm₁, X₁, hstep₁⟩ := X.invokestatic hexec hown hlink hnamed hmethM hstatic hkP hinitP hy (g := g) hg (argsL := argsL) (rest := rest) (hlen _ hsigM) hstack hdg
  rcases hK m meth c ⟨T.setVm vm₁, locs, cells, slots⟩ { g with stack := rest } (.invokestatic index) mk argsL.toArray X₁ hg hsize hdg hW (X₁.named hnamed) (hpre vm₁ X₁.warmed) with ⟨v, B, X', hpost, hsteps⟩ | ⟨q, B, X', hpost, hsteps⟩
  · exact Or.inl ⟨v, vm₁, B, X₁.warmed, X', hpost, fun target h => hstep₁ _ fun acts => by rw [doInvoke_state]; exact hsteps.trans h⟩
  · exact Or.inr ⟨q, vm₁, B, X₁.warmed, X', hpost, hstep₁ _ fun acts => by rw [doInvoke_state]; exact hsteps⟩
theorem vx_callVW (X : Stand p l e R s m args below meth c T locs cells slots) (hexec : p.tables.exec = Jvm.exec) {own C : String} {index : Nat} {y : MethodName} {bytes : ByteArray} {maxL : Nat} {ret : Option FieldType} {hh : List (Nat × Nat × Nat × Nat)}
    (hown : s.vm.findClass own = some m.cls) (hlink : (Cond.methodLink own index y).before args s = true) (hinst : (Cond.instanceMethod y).before args s = true) (hsel : (Cond.selects C y y).before args s = true)
    (hcode : (Cond.codeWith y bytes maxL ret hh).before args s = true) (hy : y.cls ≠ "java/lang/invoke/MethodHandle" ∧ y.cls ≠ "java/lang/invoke/VarHandle")
    {W9 : Nat} {Pre : Pt → Array Value → Prop} {Post : Pt → Array Value → Option Value → Pt → Prop} (hK : Back l R p e below s args y 3 W9 Pre Post)
    {b : Addr} {cellB : Cell} (hcell : T.heap[b]? = some cellB) (hobj : cellB.vm.isStatics = false) (hcls : s.vm.findClass C = some cellB.cls)
    {g : JFrame} (hg : g.method = m) (hsize : g.locals.size = c.maxLocals) {argsL rest : List Value} (hlen : ∀ sig, parseMethodDescriptor y.desc = some sig → argsL.length = sig.parameters.length)
    (hstack : g.stack = argsL.reverse ++ .ref b :: rest) (hW : 2 * g.monitorRoom + (rest.map fun v => v.category).sum ≤ W9) (hdg : decode c.code g.pc = .ok (.invokevirtual index, 3))
    (hpre : ∀ vm₁, s.WarmedH vm₁ → Pre ⟨T.setVm vm₁, locs, cells, slots⟩ (Value.ref b :: argsL).toArray) :
    ∃ (v : Option Value) (vm₁ : Vm) (B : Pt), s.WarmedH vm₁ ∧ Stand p l e R s m args below meth c B.U B.locs B.cells B.slots ∧ Post ⟨T.setVm vm₁, locs, cells, slots⟩ (Value.ref b :: argsL).toArray v B ∧
      ∀ target, Steps p.tables e below (B.U.setTop { g with pc := g.pc + 3, stack := v.toList ++ rest }) target → Steps p.tables e below (T.setTop g) target := by
  obtain ⟨mk, methM, hnamed, hmethM, hstM, habM⟩ := Cond.instanceMethod_spec hinst
  obtain ⟨m8, methM', cM, hn8, hmethM', -, -, -, -, -, -, hsigM⟩ := Cond.codeWith_spec hcode
  cases Option.some.inj (hn8.symm.trans hnamed)
  cases hmethM.symm.trans hmethM'
  obtain ⟨c2, r2, m2, q1, q2, q3, q4, kP, hkP, hkPi⟩ := Cond.selects_spec hsel
  cases hcls.symm.trans q1
  cases (State.methodFound?_of_named hnamed hy).symm.trans q2
  cases hnamed.symm.trans q3
  have hselP : selectMethod e.platform s.vm cellB.cls mk = .method mk := by rw [Launch.admits_selectMethod X.admits]; exact q4
  obtain ⟨vm₁, X₁, hstep₁⟩ := X.invokevirtual hexec hown hlink hnamed hmethM hstM hkP hkPi hy (a := b) (cell := cellB) hcell
    (fun z h => by rw [h] at hobj; cases hobj) hselP hmethM habM hkP hkPi (g := g) hg (argsL := argsL) (rest := rest) (hlen _ hsigM) hstack hdg
  obtain ⟨v, B, X', hpost, hsteps⟩ := hK m meth c ⟨T.setVm vm₁, locs, cells, slots⟩ { g with stack := rest } (.invokevirtual index) mk (Value.ref b :: argsL).toArray X₁ hg hsize hdg hW (X₁.named hnamed) (hpre vm₁ X₁.warmed)
  exact ⟨v, vm₁, B, X₁.warmed, X', hpost, fun target h => hstep₁ _ fun acts => by rw [doInvoke_state]; exact hsteps.trans h⟩
abbrev vx_CVW (R : Room) (s : State) (args : Array Value) (own C : String) (index : Nat) (y : MethodName) (bytes : ByteArray) (maxL : Nat) (ret : Option FieldType) (hh : List (Nat × Nat × Nat × Nat)) (ws : List Cond) (rm : Room) (mc ms n : Nat) : Prop :=
  (rm.cells = mc ∧ rm.slots = ms ∧ rm.frames + 1 ≤ R.frames ∧ 8 + (maxL + 11) + rm.locals ≤ R.locals ∧ (∀ w ∈ ws, ∀ (a' : Array Value) (U : State), s.WarmedH U.vm → w.before a' U = true) ∧ Cond.codeWith y bytes maxL ret hh ∈ ws) ∧
  (Cond.codeWith y bytes maxL ret hh).before args s = true ∧ (Cond.initialized y.cls).before args s = true ∧ (y.cls ≠ "java/lang/invoke/MethodHandle" ∧ y.cls ≠ "java/lang/invoke/VarHandle") ∧
  (∀ sig, parseMethodDescriptor y.desc = some sig → n = sig.parameters.length) ∧ (Cond.methodLink own index y).before args s = true ∧ (Cond.instanceMethod y).before args s = true ∧ (Cond.selects C y y).before args s = true
theorem vx_cwVW {own C : String} {index maxL mc ms : Nat} {y : MethodName} {bytes : ByteArray} {ret : Option FieldType} {hh : List (Nat × Nat × Nat × Nat)} {Ts ws ws' : List Cond} {rm : Room} (n : Nat) (ht : ∀ w ∈ Ts, w.before args s = true) (hT : GoodIn Ts (wsV own index C y ws)) (hw : ws = Cond.codeWith y bytes maxL ret hh :: ws') (hrc : rm.cells = mc) (hrs : rm.slots = ms)
    (hd : y.cls = C ∧ y.cls ≠ "java/lang/invoke/MethodHandle" ∧ y.cls ≠ "java/lang/invoke/VarHandle" ∧ (parseMethodDescriptor y.desc).map (fun d => d.parameters.length) = some n) (hR : rm.frames + 1 ≤ R.frames ∧ 8 + (maxL + 11) + rm.locals ≤ R.locals) :
    vx_CVW R s args own C index y bytes maxL ret hh ws rm mc ms n := by
  obtain ⟨hC, hd⟩ := hd
  subst hC
  have ok : ∀ w ∈ wsV own index y.cls y ws, w.before args s = true := fun w h => ht w (hT w h).1
  have hG : GoodIn Ts ws := fun w h => hT w (by unfold wsV; exact List.mem_append_right _ h)
  have hc : Cond.codeWith y bytes maxL ret hh ∈ ws := by rw [hw]; exact List.mem_cons_self
  refine ⟨⟨hrc, hrs, hR.1, hR.2, pay_in ht hG, hc⟩, ht _ (hG _ hc).1, ok _ (by simp [wsV]), ⟨hd.1, hd.2.1⟩, fun sig h => ?_, ok _ (by simp [wsV]), ok _ (by simp [wsV]), ok _ (by simp [wsV])⟩
  have h2 := hd.2.2
  rw [h] at h2
  exact (Option.some.inj h2).symm
theorem vx_runVW {y : MethodName} {bytes cc : ByteArray} {maxL nL mc ms n index : Nat} {ret : Option FieldType} {hh : List (Nat × Nat × Nat × Nat)} {ws : List Cond} {rm : Room} {Pc : Array Value → State → Prop} {Qc : Array Value → State → Outcome → State → Prop} {free : Addr → Prop} {Ts : List Cond} {own C : String} {b : Addr} {As rest : List Value} {g : JFrame}
    (S : CallFix p m c cc nL s args Ts own) (hM : Met l y ws rm Pc Qc mc ms free) (cw : vx_CVW R s args own C index y bytes maxL ret hh ws rm mc ms n) (hp : PreV s H C b Pc As)
    (hg : g.method = m) (hn : As.length = n) (hsize : g.locals.size = nL) (hstack : g.stack = As.reverse ++ .ref b :: rest) (hW : 2 * g.monitorRoom + (rest.map fun v => v.category).sum ≤ 8) (hdg : decode cc g.pc = .ok (.invokevirtual index, 3)) (hf : cells + mc ≤ R.cells ∧ slots + ms ≤ R.slots) :
    va_Run p l e R s m args below meth c H locs cells slots mc ms g rest (Qc (Value.ref b :: As).toArray) free := by
  obtain ⟨⟨hrc, hrs, hfr, hlo, hws, hcw⟩, hcode, hini, hy, hlen, hl, hin, hse⟩ := cw
  have hK : Back l R p e below s args y 3 8 (PreOf R mc ms Pc) (PostOf Qc mc ms free) := va_backW (hh := hh) (bytes := bytes) (maxL := maxL) (ret := ret) hM hp.1 hrc hrs hfr hlo hws hcw (fun a' U hW => word_at hW (Or.inl (by first | rfl | simp [Cond.onTables, Cond.keeps, Cond.steady])) hini)
  obtain ⟨hx, hb, hml, ho, -⟩ := S
  obtain ⟨-, ⟨cellB, hcB, hoB, hclB⟩, hPc⟩ := hp
  intro T hT X
  obtain ⟨v, vm₁, ⟨U', l2, c2, s2⟩, hW₁, X', ⟨g', mk, t, L, e1, e2, hq, h1, hL, h2, h3⟩, st⟩ := vx_callVW X hx (C := C) (hh := hh) (bytes := bytes) (maxL := maxL) (ret := ret) ho hl hin hse hcode hy hK (by rw [hT]; exact hcB) hoB hclB hg (hsize.trans hml.symm) (argsL := As) (rest := rest) (fun sig h => hn.trans (hlen sig h)) hstack hW (by rw [hb]; exact hdg)
    (fun vm₁ hW₁ => ⟨hf.1, hf.2, hPc (T.setVm vm₁) hT hW₁⟩)
  dsimp only [Pt.U, Pt.locs, Pt.cells, Pt.slots] at X' e1 e2 h1 h2 h3 st
  subst h1; subst h2; subst h3
  exact ⟨v, (T.setVm vm₁).calling g' mk (Value.ref b :: As).toArray, t, U', L, hT, X', hL, e1, e2, hq, st⟩
section
variable {y : MethodName} {bytes cc : ByteArray} {maxL nL mc ms n index : Nat} {ret : Option FieldType} {ws : List Cond} {rm : Room} {Pc : Array Value → State → Prop} {Qc : Array Value → State → Outcome → State → Prop} {XC : String → State → State → Prop} {free : Addr → Prop} {Ts : List Cond} {own C : String} {b : Addr} {As rest : List Value} {g : JFrame}
theorem vx_runVX {hh : List (Nat × Nat × Nat × Nat)} (S : CallFix p m c cc nL s args Ts own) (hM : vx_Met l y ws rm Pc Qc XC mc ms free) (cw : vx_CVW R s args own C index y bytes maxL ret hh ws rm mc ms n) (hp : PreV s H C b Pc As)
    (hg : g.method = m) (hn : As.length = n) (hsize : g.locals.size = nL) (hstack : g.stack = As.reverse ++ .ref b :: rest) (hW : 2 * g.monitorRoom + (rest.map fun v => v.category).sum ≤ 8) (hdg : decode cc g.pc = .ok (.invokevirtual index, 3)) (hf : cells + mc ≤ R.cells ∧ slots + ms ≤ R.slots) :
    vx_Run p l e R s m args below meth c H locs cells slots mc ms g rest (Qc (Value.ref b :: As).toArray) XC free := by
  obtain ⟨⟨hrc, hrs, hfr, hlo, hws, hcw⟩, hcode, hini, hy, hlen, hl, hin, hse⟩ := cw
  have hK : vx_Back l R p e below s args y 3 8 (PreOf R mc ms Pc) (PostOf Qc mc ms free) (vx_Post XC mc ms free) := vx_backW (hh := hh) (bytes := bytes) (maxL := maxL) (ret := ret) hM hp.1 hrc hrs hfr hlo hws hcw (fun a' U hW => word_at hW (Or.inl (by first | rfl | simp [Cond.onTables, Cond.keeps, Cond.steady])) hini)
  obtain ⟨hx, hb, hml, ho, -⟩ := S
  obtain ⟨-, ⟨cellB, hcB, hoB, hclB⟩, hPc⟩ := hp
  intro T hT X
  rcases vx_callVX X hx (C := C) (hh := hh) (bytes := bytes) (maxL := maxL) (ret := ret) ho hl hin hse hcode hy hK (by rw [hT]; exact hcB) hoB hclB hg (hsize.trans hml.symm) (argsL := As) (rest := rest) (fun sig h => hn.trans (hlen sig h)) hstack hW (by rw [hb]; exact hdg)
    (fun vm₁ hW₁ => ⟨hf.1, hf.2, hPc (T.setVm vm₁) hT hW₁⟩) with ⟨v, vm₁, ⟨U', l2, c2, s2⟩, hW₁, X', ⟨g', mk, t, L, e1, e2, hq, h1, hL, h2, h3⟩, st⟩ | ⟨q, vm₁, ⟨U', l2, c2, s2⟩, hW₁, X', ⟨g', mk, t, L, E, ce, e1, e2, hq, hce, hcv, hcl, h1, hL, h2, h3⟩, st⟩
  · dsimp only [Pt.U, Pt.locs, Pt.cells, Pt.slots] at X' e1 e2 h1 h2 h3 st
    subst h1; subst h2; subst h3
    exact Or.inl ⟨v, (T.setVm vm₁).calling g' mk (Value.ref b :: As).toArray, t, U', L, hT, X', hL, e1, e2, hq, st⟩
  · dsimp only [Pt.U, Pt.locs, Pt.cells, Pt.slots] at X' e1 e2 h1 h2 h3 st hcl
    subst h1; subst h2; subst h3
    exact Or.inr ⟨q, (T.setVm vm₁).calling g' mk (Value.ref b :: As).toArray, t, U', L, E, ce, hT, X', hL, e1, e2, hq, hce, hcv, vx_cls hW₁ hcl, st⟩
theorem vx_runSX {hh : List (Nat × Nat × Nat × Nat)} (S : CallFix p m c cc nL s args Ts own) (hM : vx_Met l y ws rm Pc Qc XC mc ms free) (cw : vx_CSW R s args own index y bytes maxL ret hh ws rm mc ms n) (hp : PreS s H Pc As)
    (hg : g.method = m) (hn : As.length = n) (hsize : g.locals.size = nL) (hstack : g.stack = As.reverse ++ rest) (hW : 2 * g.monitorRoom + (rest.map fun v => v.category).sum ≤ 8) (hdg : decode cc g.pc = .ok (.invokestatic index, 3)) (hf : cells + mc ≤ R.cells ∧ slots + ms ≤ R.slots) :
    vx_Run p l e R s m args below meth c H locs cells slots mc ms g rest (Qc As.toArray) XC free := by
  obtain ⟨⟨hrc, hrs, hfr, hlo, hws, hcw⟩, hcode, hini, hy, hlen, hl, hstt⟩ := cw
  have hK : vx_Back l R p e below s args y 3 8 (PreOf R mc ms Pc) (PostOf Qc mc ms free) (vx_Post XC mc ms free) := vx_backW (hh := hh) (bytes := bytes) (maxL := maxL) (ret := ret) hM hp.1 hrc hrs hfr hlo hws hcw (fun a' U hW => word_at hW (Or.inl (by first | rfl | simp [Cond.onTables, Cond.keeps, Cond.steady])) hini)
  obtain ⟨hx, hb, hml, ho, -⟩ := S
  intro T hT X
  rcases vx_callSX X hx (hh := hh) (bytes := bytes) (maxL := maxL) (ret := ret) ho hl hstt hini hcode hy hK hg (hsize.trans hml.symm) (argsL := As) (rest := rest) (fun sig h => hn.trans (hlen sig h)) hstack hW (by rw [hb]; exact hdg)
    (fun vm₁ hW₁ => ⟨hf.1, hf.2, hp.2 (T.setVm vm₁) hT hW₁⟩) with ⟨v, vm₁, ⟨U', l2, c2, s2⟩, hW₁, X', ⟨g', mk, t, L, e1, e2, hq, h1, hL, h2, h3⟩, st⟩ | ⟨q, vm₁, ⟨U', l2, c2, s2⟩, hW₁, X', ⟨g', mk, t, L, E, ce, e1, e2, hq, hce, hcv, hcl, h1, hL, h2, h3⟩, st⟩
  · dsimp only [Pt.U, Pt.locs, Pt.cells, Pt.slots] at X' e1 e2 h1 h2 h3 st
    subst h1; subst h2; subst h3
    exact Or.inl ⟨v, (T.setVm vm₁).calling g' mk As.toArray, t, U', L, hT, X', hL, e1, e2, hq, st⟩
  · dsimp only [Pt.U, Pt.locs, Pt.cells, Pt.slots] at X' e1 e2 h1 h2 h3 st hcl
    subst h1; subst h2; subst h3
    exact Or.inr ⟨q, (T.setVm vm₁).calling g' mk As.toArray, t, U', L, E, ce, hT, X', hL, e1, e2, hq, hce, hcv, vx_cls hW₁ hcl, st⟩
end
end VXH
theorem vx_ofWH {l : Launch} {y : MethodName} {ws ws' : List Cond} {rm : Room} {Pc : Array Value → State → Prop} {Qc : Array Value → State → Outcome → State → Prop} {XC : String → State → State → Prop} {mc ms : Nat} {free : Addr → Prop} {cc : ByteArray} {maxL : Nat} {ret : Option FieldType} {hh : List (Nat × Nat × Nat × Nat)}
    (hy : plainName y.cls = true) (hw : ws = Cond.codeWith y cc maxL ret hh :: ws')
    (body : ∀ p e s m args below meth c s₁, BodyLoose p l y (headSpec ws rm) cc maxL ret e s m args below meth c s₁ → c.maxLocals = maxL → Pc args s →
      W p l e (headSpec ws rm).room s m args below meth c s.heap [] 0 0 (vx_MQ below Qc XC args s mc ms free) (entryFrame m args maxL)) : vx_Met l y ws rm Pc Qc XC mc ms free := by
  refine MetFree.of_bodyS (code := cc) (maxLocals := maxL) (ret := ret) hy ?_ ?_
  · intro args s m h hn
    obtain ⟨m9, meth, c, hn9, h1, h2, h3, h4, -, h5, h6, -⟩ := Cond.codeWith_spec (atoms_spec (ws := ws) h _ (by rw [hw]; exact List.mem_cons_self))
    cases hn.symm.trans hn9
    exact ⟨meth, c, h1, h2, h3, h4, h5, h6⟩
  · intro p e s m args below meth c s₁ B hml hP _
    have hh0 : s₁.heap = s.heap := by rw [B.state]; rfl
    obtain ⟨t, a1, o, b1, b2, b3⟩ := body p e s m args below meth c s₁ B hml hP s₁ hh0 (Stand.of_body B)
    exact ⟨t, o, a1, b1, b2, b3⟩
/-! ===== END ===== -/

def RX0 : String := "MirrorWorks$Bytes"
def TX0 : u_T := fun k => match k with
  | _ => ("", "", "", false)
def tyX0 : Nat → FieldType := fun k => match k with
  | _ => .int
theorem nmX0 : ∀ a, a < 0 → ∀ b, b < 0 → a ≠ b → (TX0 a).2.1 ≠ (TX0 b).2.1 := by decide +kernel
theorem tyX0_ok : ∀ k, k < 0 → parseFieldDescriptor (TX0 k).2.2.1 = some (tyX0 k) := by decide +kernel
abbrev cX0_same : ByteArray := prog_2_method_2_code
def yX0_same : MethodName := ⟨RX0, "same", "([B[B)Z"⟩
abbrev cX0_order : ByteArray := prog_2_method_3_code
def yX0_order : MethodName := ⟨RX0, "order", "([B[B)I"⟩
abbrev cX0_isPath : ByteArray := prog_2_method_4_code
def yX0_isPath : MethodName := ⟨RX0, "isPath", "([B)Z"⟩
abbrev cX0_isName : ByteArray := prog_2_method_5_code
def yX0_isName : MethodName := ⟨RX0, "isName", "([BII)Z"⟩
abbrev cX0_directoryLength : ByteArray := prog_2_method_6_code
def yX0_directoryLength : MethodName := ⟨RX0, "directoryLength", "([B)I"⟩
abbrev cX0_isWithin : ByteArray := prog_2_method_7_code
def yX0_isWithin : MethodName := ⟨RX0, "isWithin", "([B[B)Z"⟩
def RX1 : String := "MirrorWorks$DiskFile"
def TX1 : u_T := fun k => match k with
  | 0 => ("MirrorWorks$DiskFile", "sort", "I", true)
  | 1 => ("MirrorWorks$DiskFile", "time", "I", true)
  | 2 => ("MirrorWorks$DiskFile", "path", "[B", true)
  | 3 => ("MirrorWorks$DiskFile", "content", "[B", true)
  | 4 => ("MirrorWorks$DiskFile", "tree", "LMirrorWorks$Tree;", true)
  | _ => ("MirrorWorks$DiskFile", "facts", "[I", true)
def tyX1 : Nat → FieldType := fun k => match k with
  | 0 => .int
  | 1 => .int
  | 2 => .array .byte
  | 3 => .array .byte
  | 4 => .object "MirrorWorks$Tree"
  | _ => .array .int
theorem nmX1 : ∀ a, a < 6 → ∀ b, b < 6 → a ≠ b → (TX1 a).2.1 ≠ (TX1 b).2.1 := by decide +kernel
theorem tyX1_ok : ∀ k, k < 6 → parseFieldDescriptor (TX1 k).2.2.1 = some (tyX1 k) := by decide +kernel
abbrev cX1_init : ByteArray := prog_3_method_1_code
def yX1_init : MethodName := ⟨RX1, "<init>", "(II[B[B)V"⟩
abbrev cX1_init_ : ByteArray := prog_3_method_2_code
def yX1_init_ : MethodName := ⟨RX1, "<init>", "(ILMirrorWorks$Tree;[I)V"⟩
abbrev cX1_isNamed : ByteArray := prog_3_method_3_code
def yX1_isNamed : MethodName := ⟨RX1, "isNamed", "(II[B)Z"⟩
def RX2 : String := "MirrorWorks$Drive"
def TX2 : u_T := fun k => match k with
  | 0 => ("MirrorWorks$Drive", "files", "Ljava/util/ArrayList;", true)
  | _ => ("MirrorWorks$Drive", "counts", "[I", true)
def tyX2 : Nat → FieldType := fun k => match k with
  | 0 => .object "java/util/ArrayList"
  | _ => .array .int
theorem nmX2 : ∀ a, a < 2 → ∀ b, b < 2 → a ≠ b → (TX2 a).2.1 ≠ (TX2 b).2.1 := by decide +kernel
theorem tyX2_ok : ∀ k, k < 2 → parseFieldDescriptor (TX2 k).2.2.1 = some (tyX2 k) := by decide +kernel
abbrev cX2_init : ByteArray := prog_4_method_1_code
def yX2_init : MethodName := ⟨RX2, "<init>", "()V"⟩
abbrev cX2_count : ByteArray := prog_4_method_2_code
def yX2_count : MethodName := ⟨RX2, "count", "(I)I"⟩
abbrev cX2_start : ByteArray := prog_4_method_3_code
def yX2_start : MethodName := ⟨RX2, "start", "(I)I"⟩
abbrev cX2_place : ByteArray := prog_4_method_4_code
def yX2_place : MethodName := ⟨RX2, "place", "(II[B)I"⟩
abbrev cX2_fileOf : ByteArray := prog_4_method_5_code
def yX2_fileOf : MethodName := ⟨RX2, "fileOf", "(II)LMirrorWorks$DiskFile;"⟩
abbrev cX2_find : ByteArray := prog_4_method_6_code
def yX2_find : MethodName := ⟨RX2, "find", "(II[B)LMirrorWorks$DiskFile;"⟩
abbrev cX2_put : ByteArray := prog_4_method_7_code
def yX2_put : MethodName := ⟨RX2, "put", "(LMirrorWorks$DiskFile;)LMirrorWorks$DiskFile;"⟩
abbrev cX2_take : ByteArray := prog_4_method_8_code
def yX2_take : MethodName := ⟨RX2, "take", "(LMirrorWorks$DiskFile;)V"⟩
abbrev cX2_sessions : ByteArray := prog_4_method_9_code
def yX2_sessions : MethodName := ⟨RX2, "sessions", "()I"⟩
abbrev cX2_sessionTime : ByteArray := prog_4_method_10_code
def yX2_sessionTime : MethodName := ⟨RX2, "sessionTime", "(I)I"⟩
abbrev cX2_latestTime : ByteArray := prog_4_method_11_code
def yX2_latestTime : MethodName := ⟨RX2, "latestTime", "()I"⟩
abbrev cX2_latestNotAbove : ByteArray := prog_4_method_12_code
def yX2_latestNotAbove : MethodName := ⟨RX2, "latestNotAbove", "(J)I"⟩
abbrev cX2_fact : ByteArray := prog_4_method_13_code
def yX2_fact : MethodName := ⟨RX2, "fact", "(II)I"⟩
abbrev cX2_readTree : ByteArray := prog_4_method_14_code
def yX2_readTree : MethodName := ⟨RX2, "readTree", "(ILMirrorWorks$Tree;)V"⟩
abbrev cX2_leadBack : ByteArray := prog_4_method_15_code
def yX2_leadBack : MethodName := ⟨RX2, "leadBack", "(ILMirrorWorks$Tree;)V"⟩
def RX3 : String := "MirrorWorks$Entry"
def TX3 : u_T := fun k => match k with
  | 0 => ("MirrorWorks$Entry", "path", "[B", false)
  | 1 => ("MirrorWorks$Entry", "kind", "I", false)
  | 2 => ("MirrorWorks$Entry", "mode", "I", false)
  | 3 => ("MirrorWorks$Entry", "time", "I", false)
  | 4 => ("MirrorWorks$Entry", "locked", "Z", false)
  | 5 => ("MirrorWorks$Entry", "content", "[B", false)
  | _ => ("MirrorWorks$Entry", "sum", "[I", false)
def tyX3 : Nat → FieldType := fun k => match k with
  | 0 => .array .byte
  | 1 => .int
  | 2 => .int
  | 3 => .int
  | 4 => .boolean
  | 5 => .array .byte
  | _ => .array .int
theorem nmX3 : ∀ a, a < 7 → ∀ b, b < 7 → a ≠ b → (TX3 a).2.1 ≠ (TX3 b).2.1 := by decide +kernel
theorem tyX3_ok : ∀ k, k < 7 → parseFieldDescriptor (TX3 k).2.2.1 = some (tyX3 k) := by decide +kernel
abbrev cX3_init : ByteArray := prog_5_method_1_code
def yX3_init : MethodName := ⟨RX3, "<init>", "()V"⟩
abbrev cX3_length : ByteArray := prog_5_method_2_code
def yX3_length : MethodName := ⟨RX3, "length", "()I"⟩
abbrev cX3_replaceContent : ByteArray := prog_5_method_3_code
def yX3_replaceContent : MethodName := ⟨RX3, "replaceContent", "([B)V"⟩
abbrev cX3_copyFrom : ByteArray := prog_5_method_4_code
def yX3_copyFrom : MethodName := ⟨RX3, "copyFrom", "(LMirrorWorks$Entry;)V"⟩
abbrev cX3_hasSameContent : ByteArray := prog_5_method_5_code
def yX3_hasSameContent : MethodName := ⟨RX3, "hasSameContent", "(LMirrorWorks$Entry;)Z"⟩
abbrev cX3_isAs : ByteArray := prog_5_method_6_code
def yX3_isAs : MethodName := ⟨RX3, "isAs", "(LMirrorWorks$Entry;)Z"⟩
def RX4 : String := "MirrorWorks$Operation"
def TX4 : u_T := fun k => match k with
  | 0 => ("MirrorWorks$Operation", "from", "LMirrorWorks$DiskFile;", true)
  | 1 => ("MirrorWorks$Operation", "to", "LMirrorWorks$DiskFile;", true)
  | _ => ("MirrorWorks$Operation", "replaced", "LMirrorWorks$DiskFile;", false)
def tyX4 : Nat → FieldType := fun k => match k with
  | 0 => .object "MirrorWorks$DiskFile"
  | 1 => .object "MirrorWorks$DiskFile"
  | _ => .object "MirrorWorks$DiskFile"
theorem nmX4 : ∀ a, a < 3 → ∀ b, b < 3 → a ≠ b → (TX4 a).2.1 ≠ (TX4 b).2.1 := by decide +kernel
theorem tyX4_ok : ∀ k, k < 3 → parseFieldDescriptor (TX4 k).2.2.1 = some (tyX4 k) := by decide +kernel
abbrev cX4_init : ByteArray := prog_6_method_1_code
def yX4_init : MethodName := ⟨RX4, "<init>", "(LMirrorWorks$DiskFile;LMirrorWorks$DiskFile;)V"⟩
abbrev cX4_isSync : ByteArray := prog_6_method_2_code
def yX4_isSync : MethodName := ⟨RX4, "isSync", "()Z"⟩
def RX5 : String := "MirrorWorks$Plan"
def TX5 : u_T := fun k => match k with
  | 0 => ("MirrorWorks$Plan", "drive", "LMirrorWorks$Drive;", true)
  | 1 => ("MirrorWorks$Plan", "operations", "Ljava/util/ArrayList;", true)
  | 2 => ("MirrorWorks$Plan", "sync", "LMirrorWorks$Operation;", true)
  | 3 => ("MirrorWorks$Plan", "done", "I", false)
  | 4 => ("MirrorWorks$Plan", "doneInAll", "I", false)
  | _ => ("MirrorWorks$Plan", "synced", "I", false)
def tyX5 : Nat → FieldType := fun k => match k with
  | 0 => .object "MirrorWorks$Drive"
  | 1 => .object "java/util/ArrayList"
  | 2 => .object "MirrorWorks$Operation"
  | 3 => .int
  | 4 => .int
  | _ => .int
theorem nmX5 : ∀ a, a < 6 → ∀ b, b < 6 → a ≠ b → (TX5 a).2.1 ≠ (TX5 b).2.1 := by decide +kernel
theorem tyX5_ok : ∀ k, k < 6 → parseFieldDescriptor (TX5 k).2.2.1 = some (tyX5 k) := by decide +kernel
abbrev cX5_init : ByteArray := prog_7_method_1_code
def yX5_init : MethodName := ⟨RX5, "<init>", "(LMirrorWorks$Drive;)V"⟩
abbrev cX5_length : ByteArray := prog_7_method_2_code
def yX5_length : MethodName := ⟨RX5, "length", "()I"⟩
abbrev cX5_isOver : ByteArray := prog_7_method_3_code
def yX5_isOver : MethodName := ⟨RX5, "isOver", "()Z"⟩
abbrev cX5_perform : ByteArray := prog_7_method_4_code
def yX5_perform : MethodName := ⟨RX5, "perform", "(I)I"⟩
abbrev cX5_breakOff : ByteArray := prog_7_method_5_code
def yX5_breakOff : MethodName := ⟨RX5, "breakOff", "(I)I"⟩
abbrev cX5_takeBack : ByteArray := prog_7_method_6_code
def yX5_takeBack : MethodName := ⟨RX5, "takeBack", "(LMirrorWorks$Operation;)V"⟩
abbrev cX5_clear : ByteArray := prog_7_method_7_code
def yX5_clear : MethodName := ⟨RX5, "clear", "()V"⟩
abbrev cX5_addWrite : ByteArray := prog_7_method_8_code
def yX5_addWrite : MethodName := ⟨RX5, "addWrite", "(LMirrorWorks$DiskFile;)V"⟩
abbrev cX5_addRename : ByteArray := prog_7_method_9_code
def yX5_addRename : MethodName := ⟨RX5, "addRename", "(LMirrorWorks$DiskFile;LMirrorWorks$DiskFile;)V"⟩
abbrev cX5_addDelete : ByteArray := prog_7_method_10_code
def yX5_addDelete : MethodName := ⟨RX5, "addDelete", "(LMirrorWorks$DiskFile;)V"⟩
abbrev cX5_addSync : ByteArray := prog_7_method_11_code
def yX5_addSync : MethodName := ⟨RX5, "addSync", "()V"⟩
abbrev cX5_planSession : ByteArray := prog_7_method_12_code
def yX5_planSession : MethodName := ⟨RX5, "planSession", "(LMirrorWorks$DiskFile;LMirrorWorks$Tree;LMirrorWorks$Tree;)V"⟩
abbrev cX5_planChange : ByteArray := prog_7_method_13_code
def yX5_planChange : MethodName := ⟨RX5, "planChange", "(I[BLMirrorWorks$DiskFile;[B)V"⟩
abbrev cX5_planDropOfSetAside : ByteArray := prog_7_method_14_code
def yX5_planDropOfSetAside : MethodName := ⟨RX5, "planDropOfSetAside", "()V"⟩
abbrev cX5_planPruning : ByteArray := prog_7_method_15_code
def yX5_planPruning : MethodName := ⟨RX5, "planPruning", "(I)V"⟩
abbrev cX5_planDropOfWaysBack : ByteArray := prog_7_method_16_code
def yX5_planDropOfWaysBack : MethodName := ⟨RX5, "planDropOfWaysBack", "(I)V"⟩
abbrev cX5_planRecovery : ByteArray := prog_7_method_17_code
def yX5_planRecovery : MethodName := ⟨RX5, "planRecovery", "()V"⟩
abbrev cX5_planUndoing : ByteArray := prog_7_method_18_code
def yX5_planUndoing : MethodName := ⟨RX5, "planUndoing", "(LMirrorWorks$DiskFile;)V"⟩
abbrev cX5_planFinishing : ByteArray := prog_7_method_19_code
def yX5_planFinishing : MethodName := ⟨RX5, "planFinishing", "()V"⟩
def RX6 : String := "MirrorWorks$Sums"
def TX6 : u_T := fun k => match k with
  | 0 => ("MirrorWorks$Sums", "schedule", "[I", true)
  | _ => ("MirrorWorks$Sums", "state", "[I", true)
def tyX6 : Nat → FieldType := fun k => match k with
  | 0 => .array .int
  | _ => .array .int
theorem nmX6 : ∀ a, a < 2 → ∀ b, b < 2 → a ≠ b → (TX6 a).2.1 ≠ (TX6 b).2.1 := by decide +kernel
theorem tyX6_ok : ∀ k, k < 2 → parseFieldDescriptor (TX6 k).2.2.1 = some (tyX6 k) := by decide +kernel
abbrev cX6_init : ByteArray := prog_8_method_1_code
def yX6_init : MethodName := ⟨RX6, "<init>", "()V"⟩
abbrev cX6_take : ByteArray := prog_8_method_2_code
def yX6_take : MethodName := ⟨RX6, "take", "([B)V"⟩
abbrev cX6_word : ByteArray := prog_8_method_3_code
def yX6_word : MethodName := ⟨RX6, "word", "(I)I"⟩
abbrev cX6_sumOf : ByteArray := prog_8_method_4_code
def yX6_sumOf : MethodName := ⟨RX6, "sumOf", "([B)[I"⟩
abbrev cX6_isSum : ByteArray := prog_8_method_5_code
def yX6_isSum : MethodName := ⟨RX6, "isSum", "([B[I)Z"⟩
abbrev cX6_loadBlock : ByteArray := prog_8_method_6_code
def yX6_loadBlock : MethodName := ⟨RX6, "loadBlock", "([BI)V"⟩
abbrev cX6_spreadSchedule : ByteArray := prog_8_method_7_code
def yX6_spreadSchedule : MethodName := ⟨RX6, "spreadSchedule", "()V"⟩
abbrev cX6_mixBlock : ByteArray := prog_8_method_8_code
def yX6_mixBlock : MethodName := ⟨RX6, "mixBlock", "()V"⟩
def RX7 : String := "MirrorWorks$Text"
def TX7 : u_T := fun k => match k with
  | 0 => ("MirrorWorks$Text", "bytes", "[B", true)
  | _ => ("MirrorWorks$Text", "length", "I", false)
def tyX7 : Nat → FieldType := fun k => match k with
  | 0 => .array .byte
  | _ => .int
theorem nmX7 : ∀ a, a < 2 → ∀ b, b < 2 → a ≠ b → (TX7 a).2.1 ≠ (TX7 b).2.1 := by decide +kernel
theorem tyX7_ok : ∀ k, k < 2 → parseFieldDescriptor (TX7 k).2.2.1 = some (tyX7 k) := by decide +kernel
abbrev cX7_init : ByteArray := prog_9_method_1_code
def yX7_init : MethodName := ⟨RX7, "<init>", "()V"⟩
abbrev cX7_byteAt : ByteArray := prog_9_method_2_code
def yX7_byteAt : MethodName := ⟨RX7, "byteAt", "(I)I"⟩
abbrev cX7_putByte : ByteArray := prog_9_method_3_code
def yX7_putByte : MethodName := ⟨RX7, "putByte", "(I)V"⟩
abbrev cX7_putText : ByteArray := prog_9_method_4_code
def yX7_putText : MethodName := ⟨RX7, "putText", "(Ljava/lang/String;)V"⟩
abbrev cX7_putNumber : ByteArray := prog_9_method_5_code
def yX7_putNumber : MethodName := ⟨RX7, "putNumber", "(I)V"⟩
abbrev cX7_putLine : ByteArray := prog_9_method_6_code
def yX7_putLine : MethodName := ⟨RX7, "putLine", "(Ljava/lang/String;I)V"⟩
abbrev cX7_putPath : ByteArray := prog_9_method_7_code
def yX7_putPath : MethodName := ⟨RX7, "putPath", "([B)V"⟩
abbrev cX7_putEntry : ByteArray := prog_9_method_8_code
def yX7_putEntry : MethodName := ⟨RX7, "putEntry", "(LMirrorWorks$Entry;)V"⟩
def RX8 : String := "MirrorWorks$Tree"
def TX8 : u_T := fun k => match k with
  | 0 => ("MirrorWorks$Tree", "rows", "[LMirrorWorks$Entry;", true)
  | _ => ("MirrorWorks$Tree", "size", "I", false)
def tyX8 : Nat → FieldType := fun k => match k with
  | 0 => .array (.object "MirrorWorks$Entry")
  | _ => .int
theorem nmX8 : ∀ a, a < 2 → ∀ b, b < 2 → a ≠ b → (TX8 a).2.1 ≠ (TX8 b).2.1 := by decide +kernel
theorem tyX8_ok : ∀ k, k < 2 → parseFieldDescriptor (TX8 k).2.2.1 = some (tyX8 k) := by decide +kernel
abbrev cX8_init : ByteArray := prog_10_method_1_code
def yX8_init : MethodName := ⟨RX8, "<init>", "(I)V"⟩
abbrev cX8_row : ByteArray := prog_10_method_2_code
def yX8_row : MethodName := ⟨RX8, "row", "(I)LMirrorWorks$Entry;"⟩
abbrev cX8_find : ByteArray := prog_10_method_3_code
def yX8_find : MethodName := ⟨RX8, "find", "([B)I"⟩
abbrev cX8_place : ByteArray := prog_10_method_4_code
def yX8_place : MethodName := ⟨RX8, "place", "([B)I"⟩
abbrev cX8_grow : ByteArray := prog_10_method_5_code
def yX8_grow : MethodName := ⟨RX8, "grow", "(I)LMirrorWorks$Entry;"⟩
abbrev cX8_append : ByteArray := prog_10_method_6_code
def yX8_append : MethodName := ⟨RX8, "append", "(LMirrorWorks$Entry;)LMirrorWorks$Entry;"⟩
abbrev cX8_drop : ByteArray := prog_10_method_7_code
def yX8_drop : MethodName := ⟨RX8, "drop", "([BZ)I"⟩
abbrev cX8_bytes : ByteArray := prog_10_method_8_code
def yX8_bytes : MethodName := ⟨RX8, "bytes", "()I"⟩
abbrev cX8_lockedCount : ByteArray := prog_10_method_9_code
def yX8_lockedCount : MethodName := ⟨RX8, "lockedCount", "()I"⟩
abbrev cX8_withoutContent : ByteArray := prog_10_method_10_code
def yX8_withoutContent : MethodName := ⟨RX8, "withoutContent", "()LMirrorWorks$Tree;"⟩
def RX9 : String := "MirrorWorks$Walk"
def TX9 : u_T := fun k => match k with
  | 0 => ("MirrorWorks$Walk", "before", "LMirrorWorks$Tree;", true)
  | 1 => ("MirrorWorks$Walk", "after", "LMirrorWorks$Tree;", true)
  | 2 => ("MirrorWorks$Walk", "i", "I", false)
  | 3 => ("MirrorWorks$Walk", "j", "I", false)
  | 4 => ("MirrorWorks$Walk", "path", "[B", false)
  | 5 => ("MirrorWorks$Walk", "left", "LMirrorWorks$Entry;", false)
  | _ => ("MirrorWorks$Walk", "right", "LMirrorWorks$Entry;", false)
def tyX9 : Nat → FieldType := fun k => match k with
  | 0 => .object "MirrorWorks$Tree"
  | 1 => .object "MirrorWorks$Tree"
  | 2 => .int
  | 3 => .int
  | 4 => .array .byte
  | 5 => .object "MirrorWorks$Entry"
  | _ => .object "MirrorWorks$Entry"
theorem nmX9 : ∀ a, a < 7 → ∀ b, b < 7 → a ≠ b → (TX9 a).2.1 ≠ (TX9 b).2.1 := by decide +kernel
theorem tyX9_ok : ∀ k, k < 7 → parseFieldDescriptor (TX9 k).2.2.1 = some (tyX9 k) := by decide +kernel
abbrev cX9_init : ByteArray := prog_11_method_1_code
def yX9_init : MethodName := ⟨RX9, "<init>", "(LMirrorWorks$Tree;LMirrorWorks$Tree;)V"⟩
abbrev cX9_next : ByteArray := prog_11_method_2_code
def yX9_next : MethodName := ⟨RX9, "next", "()Z"⟩
abbrev cX9_difference : ByteArray := prog_11_method_3_code
def yX9_difference : MethodName := ⟨RX9, "difference", "()I"⟩
abbrev cX9_newContent : ByteArray := prog_11_method_4_code
def yX9_newContent : MethodName := ⟨RX9, "newContent", "()[B"⟩
abbrev cX9_isContentChange : ByteArray := prog_11_method_5_code
def yX9_isContentChange : MethodName := ⟨RX9, "isContentChange", "()Z"⟩
def RX10 : String := "MirrorWorks$Words"
def TX10 : u_T := fun k => match k with
  | 0 => ("MirrorWorks$Words", "tape", "[B", false)
  | 1 => ("MirrorWorks$Words", "starts", "[I", true)
  | 2 => ("MirrorWorks$Words", "stops", "[I", true)
  | _ => ("MirrorWorks$Words", "count", "I", false)
def tyX10 : Nat → FieldType := fun k => match k with
  | 0 => .array .byte
  | 1 => .array .int
  | 2 => .array .int
  | _ => .int
theorem nmX10 : ∀ a, a < 4 → ∀ b, b < 4 → a ≠ b → (TX10 a).2.1 ≠ (TX10 b).2.1 := by decide +kernel
theorem tyX10_ok : ∀ k, k < 4 → parseFieldDescriptor (TX10 k).2.2.1 = some (tyX10 k) := by decide +kernel
abbrev cX10_init : ByteArray := prog_12_method_1_code
def yX10_init : MethodName := ⟨RX10, "<init>", "()V"⟩
abbrev cX10_takeWhole : ByteArray := prog_12_method_2_code
def yX10_takeWhole : MethodName := ⟨RX10, "takeWhole", "([BI)V"⟩
abbrev cX10_split : ByteArray := prog_12_method_3_code
def yX10_split : MethodName := ⟨RX10, "split", "([BI)V"⟩
abbrev cX10_addWord : ByteArray := prog_12_method_4_code
def yX10_addWord : MethodName := ⟨RX10, "addWord", "(II)V"⟩
abbrev cX10_isWord : ByteArray := prog_12_method_5_code
def yX10_isWord : MethodName := ⟨RX10, "isWord", "(I)Z"⟩
abbrev cX10_is : ByteArray := prog_12_method_6_code
def yX10_is : MethodName := ⟨RX10, "is", "(ILjava/lang/String;)Z"⟩
abbrev cX10_countDigits : ByteArray := prog_12_method_7_code
def yX10_countDigits : MethodName := ⟨RX10, "countDigits", "(II)I"⟩
abbrev cX10_readDigits : ByteArray := prog_12_method_8_code
def yX10_readDigits : MethodName := ⟨RX10, "readDigits", "(III)I"⟩
abbrev cX10_number : ByteArray := prog_12_method_9_code
def yX10_number : MethodName := ⟨RX10, "number", "(I)I"⟩
abbrev cX10_meaning : ByteArray := prog_12_method_10_code
def yX10_meaning : MethodName := ⟨RX10, "meaning", "(ILMirrorWorks$Drive;)I"⟩
abbrev cX10_readSpan : ByteArray := prog_12_method_11_code
def yX10_readSpan : MethodName := ⟨RX10, "readSpan", "(II)J"⟩
abbrev cX10_path : ByteArray := prog_12_method_12_code
def yX10_path : MethodName := ⟨RX10, "path", "(I)[B"⟩
abbrev cX10_readPair : ByteArray := prog_12_method_13_code
def yX10_readPair : MethodName := ⟨RX10, "readPair", "(II)I"⟩
abbrev cX10_readHexadecimal : ByteArray := prog_12_method_14_code
def yX10_readHexadecimal : MethodName := ⟨RX10, "readHexadecimal", "(I)I"⟩
def RX11 : String := "MirrorWorks"
def TX11 : u_T := fun k => match k with
  | 0 => ("MirrorWorks", "ready", "[B", true)
  | 1 => ("MirrorWorks", "tape", "[B", true)
  | 2 => ("MirrorWorks", "tapeLength", "I", false)
  | 3 => ("MirrorWorks", "source", "LMirrorWorks$Tree;", true)
  | 4 => ("MirrorWorks", "chosen", "I", false)
  | 5 => ("MirrorWorks", "result", "LMirrorWorks$Tree;", false)
  | 6 => ("MirrorWorks", "first", "LMirrorWorks$Tree;", false)
  | 7 => ("MirrorWorks", "second", "LMirrorWorks$Tree;", true)
  | 8 => ("MirrorWorks", "drive", "LMirrorWorks$Drive;", true)
  | 9 => ("MirrorWorks", "plan", "LMirrorWorks$Plan;", true)
  | 10 => ("MirrorWorks", "state", "I", false)
  | 11 => ("MirrorWorks", "sums", "LMirrorWorks$Sums;", true)
  | 12 => ("MirrorWorks", "words", "LMirrorWorks$Words;", true)
  | _ => ("MirrorWorks", "text", "LMirrorWorks$Text;", true)
def tyX11 : Nat → FieldType := fun k => match k with
  | 0 => .array .byte
  | 1 => .array .byte
  | 2 => .int
  | 3 => .object "MirrorWorks$Tree"
  | 4 => .int
  | 5 => .object "MirrorWorks$Tree"
  | 6 => .object "MirrorWorks$Tree"
  | 7 => .object "MirrorWorks$Tree"
  | 8 => .object "MirrorWorks$Drive"
  | 9 => .object "MirrorWorks$Plan"
  | 10 => .int
  | 11 => .object "MirrorWorks$Sums"
  | 12 => .object "MirrorWorks$Words"
  | _ => .object "MirrorWorks$Text"
theorem nmX11 : ∀ a, a < 14 → ∀ b, b < 14 → a ≠ b → (TX11 a).2.1 ≠ (TX11 b).2.1 := by decide +kernel
theorem tyX11_ok : ∀ k, k < 14 → parseFieldDescriptor (TX11 k).2.2.1 = some (tyX11 k) := by decide +kernel
abbrev cX11_init : ByteArray := prog_1_method_1_code
def yX11_init : MethodName := ⟨RX11, "<init>", "()V"⟩
abbrev cX11_feed : ByteArray := prog_1_method_2_code
def yX11_feed : MethodName := ⟨RX11, "feed", "(IIIII)V"⟩
abbrev cX11_putReady : ByteArray := prog_1_method_3_code
def yX11_putReady : MethodName := ⟨RX11, "putReady", "(II)V"⟩
abbrev cX11_end : ByteArray := prog_1_method_4_code
def yX11_end : MethodName := ⟨RX11, "end", "(I)I"⟩
abbrev cX11_takeTape : ByteArray := prog_1_method_5_code
def yX11_takeTape : MethodName := ⟨RX11, "takeTape", "()[B"⟩
abbrev cX11_make : ByteArray := prog_1_method_6_code
def yX11_make : MethodName := ⟨RX11, "make", "(III)I"⟩
abbrev cX11_areModeAndTime : ByteArray := prog_1_method_7_code
def yX11_areModeAndTime : MethodName := ⟨RX11, "areModeAndTime", "(II)Z"⟩
abbrev cX11_hasDirectory : ByteArray := prog_1_method_8_code
def yX11_hasDirectory : MethodName := ⟨RX11, "hasDirectory", "([B)Z"⟩
abbrev cX11_choose : ByteArray := prog_1_method_9_code
def yX11_choose : MethodName := ⟨RX11, "choose", "()I"⟩
abbrev cX11_write : ByteArray := prog_1_method_10_code
def yX11_write : MethodName := ⟨RX11, "write", "(I)I"⟩
abbrev cX11_mostBytes : ByteArray := prog_1_method_11_code
def yX11_mostBytes : MethodName := ⟨RX11, "mostBytes", "(I)I"⟩
abbrev cX11_cut : ByteArray := prog_1_method_12_code
def yX11_cut : MethodName := ⟨RX11, "cut", "(I)V"⟩
abbrev cX11_set : ByteArray := prog_1_method_13_code
def yX11_set : MethodName := ⟨RX11, "set", "(IIZ)V"⟩
abbrev cX11_remove : ByteArray := prog_1_method_14_code
def yX11_remove : MethodName := ⟨RX11, "remove", "()I"⟩
abbrev cX11_begin : ByteArray := prog_1_method_15_code
def yX11_begin : MethodName := ⟨RX11, "begin", "(I)I"⟩
abbrev cX11_openSession : ByteArray := prog_1_method_16_code
def yX11_openSession : MethodName := ⟨RX11, "openSession", "(I)V"⟩
abbrev cX11_gatherTree : ByteArray := prog_1_method_17_code
def yX11_gatherTree : MethodName := ⟨RX11, "gatherTree", "(LMirrorWorks$Tree;LMirrorWorks$Tree;)I"⟩
abbrev cX11_countDifferences : ByteArray := prog_1_method_18_code
def yX11_countDifferences : MethodName := ⟨RX11, "countDifferences", "([I)V"⟩
abbrev cX11_prune : ByteArray := prog_1_method_19_code
def yX11_prune : MethodName := ⟨RX11, "prune", "()I"⟩
abbrev cX11_openPruning : ByteArray := prog_1_method_20_code
def yX11_openPruning : MethodName := ⟨RX11, "openPruning", "(I)V"⟩
abbrev cX11_takeTime : ByteArray := prog_1_method_21_code
def yX11_takeTime : MethodName := ⟨RX11, "takeTime", "()I"⟩
abbrev cX11_recover : ByteArray := prog_1_method_22_code
def yX11_recover : MethodName := ⟨RX11, "recover", "()I"⟩
abbrev cX11_openRecovery : ByteArray := prog_1_method_23_code
def yX11_openRecovery : MethodName := ⟨RX11, "openRecovery", "()V"⟩
abbrev cX11_isWorking : ByteArray := prog_1_method_24_code
def yX11_isWorking : MethodName := ⟨RX11, "isWorking", "()Z"⟩
abbrev cX11_step : ByteArray := prog_1_method_25_code
def yX11_step : MethodName := ⟨RX11, "step", "(I)I"⟩
abbrev cX11_advance : ByteArray := prog_1_method_26_code
def yX11_advance : MethodName := ⟨RX11, "advance", "(I)I"⟩
abbrev cX11_crash : ByteArray := prog_1_method_27_code
def yX11_crash : MethodName := ⟨RX11, "crash", "(I)I"⟩
abbrev cX11_restore : ByteArray := prog_1_method_28_code
def yX11_restore : MethodName := ⟨RX11, "restore", "()I"⟩
abbrev cX11_verify : ByteArray := prog_1_method_29_code
def yX11_verify : MethodName := ⟨RX11, "verify", "()I"⟩
abbrev cX11_readTreeOfTape : ByteArray := prog_1_method_30_code
def yX11_readTreeOfTape : MethodName := ⟨RX11, "readTreeOfTape", "()V"⟩
abbrev cX11_countWrongSums : ByteArray := prog_1_method_31_code
def yX11_countWrongSums : MethodName := ⟨RX11, "countWrongSums", "()I"⟩
abbrev cX11_entry : ByteArray := prog_1_method_32_code
def yX11_entry : MethodName := ⟨RX11, "entry", "(III)I"⟩
abbrev cX11_entryOf : ByteArray := prog_1_method_33_code
def yX11_entryOf : MethodName := ⟨RX11, "entryOf", "(II)LMirrorWorks$Entry;"⟩
abbrev cX11_at : ByteArray := prog_1_method_34_code
def yX11_at : MethodName := ⟨RX11, "at", "(IIZI)I"⟩
abbrev cX11_sum : ByteArray := prog_1_method_35_code
def yX11_sum : MethodName := ⟨RX11, "sum", "(II)I"⟩
abbrev cX11_about : ByteArray := prog_1_method_36_code
def yX11_about : MethodName := ⟨RX11, "about", "(I)I"⟩
abbrev cX11_disk : ByteArray := prog_1_method_37_code
def yX11_disk : MethodName := ⟨RX11, "disk", "(I)I"⟩
abbrev cX11_command : ByteArray := prog_1_method_38_code
def yX11_command : MethodName := ⟨RX11, "command", "()I"⟩
abbrev cX11_checkAll : ByteArray := prog_1_method_39_code
def yX11_checkAll : MethodName := ⟨RX11, "checkAll", "()I"⟩
abbrev cX11_showSessions : ByteArray := prog_1_method_40_code
def yX11_showSessions : MethodName := ⟨RX11, "showSessions", "()I"⟩
abbrev cX11_backUp : ByteArray := prog_1_method_41_code
def yX11_backUp : MethodName := ⟨RX11, "backUp", "()I"⟩
abbrev cX11_refusal : ByteArray := prog_1_method_42_code
def yX11_refusal : MethodName := ⟨RX11, "refusal", "(I)I"⟩
abbrev cX11_forget : ByteArray := prog_1_method_43_code
def yX11_forget : MethodName := ⟨RX11, "forget", "()I"⟩
abbrev cX11_checkSums : ByteArray := prog_1_method_44_code
def yX11_checkSums : MethodName := ⟨RX11, "checkSums", "()I"⟩
abbrev cX11_showChanges : ByteArray := prog_1_method_45_code
def yX11_showChanges : MethodName := ⟨RX11, "showChanges", "()I"⟩
abbrev cX11_readNamedEntries : ByteArray := prog_1_method_46_code
def yX11_readNamedEntries : MethodName := ⟨RX11, "readNamedEntries", "()I"⟩
abbrev cX11_bringBack : ByteArray := prog_1_method_47_code
def yX11_bringBack : MethodName := ⟨RX11, "bringBack", "()I"⟩
abbrev cX11_showEntries : ByteArray := prog_1_method_48_code
def yX11_showEntries : MethodName := ⟨RX11, "showEntries", "()I"⟩
abbrev cX11_output : ByteArray := prog_1_method_49_code
def yX11_output : MethodName := ⟨RX11, "output", "()I"⟩
abbrev cX11_outputAt : ByteArray := prog_1_method_50_code
def yX11_outputAt : MethodName := ⟨RX11, "outputAt", "(I)I"⟩
abbrev cX11_session : ByteArray := prog_1_method_51_code
def yX11_session : MethodName := ⟨RX11, "session", "(II)I"⟩
def RX12 : String := "MirrorWorksModel"
def TX12 : u_T := fun k => match k with
  | 0 => ("MirrorWorksModel", "thrown", "I", false)
  | 1 => ("MirrorWorksModel", "ready", "[I", true)
  | 2 => ("MirrorWorksModel", "tape", "[I", true)
  | 3 => ("MirrorWorksModel", "size", "I", false)
  | 4 => ("MirrorWorksModel", "many", "[I", true)
  | 5 => ("MirrorWorksModel", "kind", "[I", true)
  | 6 => ("MirrorWorksModel", "mode", "[I", true)
  | 7 => ("MirrorWorksModel", "time", "[I", true)
  | 8 => ("MirrorWorksModel", "pathSize", "[I", true)
  | 9 => ("MirrorWorksModel", "at", "[I", true)
  | 10 => ("MirrorWorksModel", "length", "[I", true)
  | 11 => ("MirrorWorksModel", "path", "[B", true)
  | 12 => ("MirrorWorksModel", "pool", "[B", true)
  | 13 => ("MirrorWorksModel", "own", "[B", true)
  | 14 => ("MirrorWorksModel", "locked", "[Z", true)
  | 15 => ("MirrorWorksModel", "isHome", "[Z", true)
  | 16 => ("MirrorWorksModel", "chosen", "I", false)
  | 17 => ("MirrorWorksModel", "slots", "I", false)
  | 18 => ("MirrorWorksModel", "when", "[I", true)
  | 19 => ("MirrorWorksModel", "facts", "[I", true)
  | 20 => ("MirrorWorksModel", "changes", "[I", true)
  | 21 => ("MirrorWorksModel", "had", "[Z", true)
  | 22 => ("MirrorWorksModel", "has", "[Z", true)
  | 23 => ("MirrorWorksModel", "isC", "[Z", true)
  | 24 => ("MirrorWorksModel", "isT", "[Z", true)
  | 25 => ("MirrorWorksModel", "isI", "[Z", true)
  | 26 => ("MirrorWorksModel", "isM", "[Z", true)
  | 27 => ("MirrorWorksModel", "isU", "[Z", true)
  | 28 => ("MirrorWorksModel", "isB", "Z", false)
  | 29 => ("MirrorWorksModel", "isX", "Z", false)
  | 30 => ("MirrorWorksModel", "stayB", "Z", false)
  | 31 => ("MirrorWorksModel", "stayX", "Z", false)
  | 32 => ("MirrorWorksModel", "stayC", "[Z", true)
  | 33 => ("MirrorWorksModel", "stayT", "[Z", true)
  | 34 => ("MirrorWorksModel", "stayI", "[Z", true)
  | 35 => ("MirrorWorksModel", "stayM", "[Z", true)
  | 36 => ("MirrorWorksModel", "stayU", "[Z", true)
  | 37 => ("MirrorWorksModel", "active", "I", false)
  | 38 => ("MirrorWorksModel", "others", "I", false)
  | 39 => ("MirrorWorksModel", "state", "I", false)
  | 40 => ("MirrorWorksModel", "operations", "I", false)
  | 41 => ("MirrorWorksModel", "done", "I", false)
  | 42 => ("MirrorWorksModel", "synced", "I", false)
  | 43 => ("MirrorWorksModel", "all", "I", false)
  | 44 => ("MirrorWorksModel", "what", "[I", true)
  | 45 => ("MirrorWorksModel", "of", "[I", true)
  | 46 => ("MirrorWorksModel", "which", "[I", true)
  | 47 => ("MirrorWorksModel", "output", "[B", true)
  | 48 => ("MirrorWorksModel", "written", "I", false)
  | 49 => ("MirrorWorksModel", "name", "[B", true)
  | 50 => ("MirrorWorksModel", "nameSize", "I", false)
  | 51 => ("MirrorWorksModel", "from", "[I", true)
  | 52 => ("MirrorWorksModel", "to", "[I", true)
  | 53 => ("MirrorWorksModel", "words", "I", false)
  | 54 => ("MirrorWorksModel", "constant", "[I", true)
  | 55 => ("MirrorWorksModel", "begin", "[I", true)
  | 56 => ("MirrorWorksModel", "sum", "[I", true)
  | 57 => ("MirrorWorksModel", "now", "[I", true)
  | _ => ("MirrorWorksModel", "wide", "[I", true)
def tyX12 : Nat → FieldType := fun k => match k with
  | 0 => .int
  | 1 => .array .int
  | 2 => .array .int
  | 3 => .int
  | 4 => .array .int
  | 5 => .array .int
  | 6 => .array .int
  | 7 => .array .int
  | 8 => .array .int
  | 9 => .array .int
  | 10 => .array .int
  | 11 => .array .byte
  | 12 => .array .byte
  | 13 => .array .byte
  | 14 => .array .boolean
  | 15 => .array .boolean
  | 16 => .int
  | 17 => .int
  | 18 => .array .int
  | 19 => .array .int
  | 20 => .array .int
  | 21 => .array .boolean
  | 22 => .array .boolean
  | 23 => .array .boolean
  | 24 => .array .boolean
  | 25 => .array .boolean
  | 26 => .array .boolean
  | 27 => .array .boolean
  | 28 => .boolean
  | 29 => .boolean
  | 30 => .boolean
  | 31 => .boolean
  | 32 => .array .boolean
  | 33 => .array .boolean
  | 34 => .array .boolean
  | 35 => .array .boolean
  | 36 => .array .boolean
  | 37 => .int
  | 38 => .int
  | 39 => .int
  | 40 => .int
  | 41 => .int
  | 42 => .int
  | 43 => .int
  | 44 => .array .int
  | 45 => .array .int
  | 46 => .array .int
  | 47 => .array .byte
  | 48 => .int
  | 49 => .array .byte
  | 50 => .int
  | 51 => .array .int
  | 52 => .array .int
  | 53 => .int
  | 54 => .array .int
  | 55 => .array .int
  | 56 => .array .int
  | 57 => .array .int
  | _ => .array .int
theorem nmX12 : ∀ a, a < 59 → ∀ b, b < 59 → a ≠ b → (TX12 a).2.1 ≠ (TX12 b).2.1 := by decide +kernel
theorem tyX12_ok : ∀ k, k < 59 → parseFieldDescriptor (TX12 k).2.2.1 = some (tyX12 k) := by decide +kernel
abbrev cX12_init : ByteArray := prog_14_method_1_code
def yX12_init : MethodName := ⟨RX12, "<init>", "()V"⟩
abbrev cX12_thrown : ByteArray := prog_14_method_2_code
def yX12_thrown : MethodName := ⟨RX12, "thrown", "()I"⟩
abbrev cX12_throwing : ByteArray := prog_14_method_3_code
def yX12_throwing : MethodName := ⟨RX12, "throwing", "(ZZ)Z"⟩
abbrev cX12_isOf : ByteArray := prog_14_method_4_code
def yX12_isOf : MethodName := ⟨RX12, "isOf", "(II)Z"⟩
abbrev cX12_feed : ByteArray := prog_14_method_5_code
def yX12_feed : MethodName := ⟨RX12, "feed", "(IIIII)V"⟩
abbrev cX12_end : ByteArray := prog_14_method_6_code
def yX12_end : MethodName := ⟨RX12, "end", "(I)I"⟩
abbrev cX12_isPath : ByteArray := prog_14_method_7_code
def yX12_isPath : MethodName := ⟨RX12, "isPath", "()Z"⟩
abbrev cX12_takeName : ByteArray := prog_14_method_8_code
def yX12_takeName : MethodName := ⟨RX12, "takeName", "()V"⟩
abbrev cX12_pathByte : ByteArray := prog_14_method_9_code
def yX12_pathByte : MethodName := ⟨RX12, "pathByte", "(II)I"⟩
abbrev cX12_order : ByteArray := prog_14_method_10_code
def yX12_order : MethodName := ⟨RX12, "order", "(II)I"⟩
abbrev cX12_nameByte : ByteArray := prog_14_method_11_code
def yX12_nameByte : MethodName := ⟨RX12, "nameByte", "(II)I"⟩
abbrev cX12_orderName : ByteArray := prog_14_method_12_code
def yX12_orderName : MethodName := ⟨RX12, "orderName", "(II)I"⟩
abbrev cX12_find : ByteArray := prog_14_method_13_code
def yX12_find : MethodName := ⟨RX12, "find", "(II)I"⟩
abbrev cX12_isBelow : ByteArray := prog_14_method_14_code
def yX12_isBelow : MethodName := ⟨RX12, "isBelow", "(I)Z"⟩
abbrev cX12_treeOf : ByteArray := prog_14_method_15_code
def yX12_treeOf : MethodName := ⟨RX12, "treeOf", "(I)I"⟩
abbrev cX12_byteOf : ByteArray := prog_14_method_16_code
def yX12_byteOf : MethodName := ⟨RX12, "byteOf", "(II)I"⟩
abbrev cX12_move : ByteArray := prog_14_method_17_code
def yX12_move : MethodName := ⟨RX12, "move", "(II)V"⟩
abbrev cX12_bytesOf : ByteArray := prog_14_method_18_code
def yX12_bytesOf : MethodName := ⟨RX12, "bytesOf", "(I)I"⟩
abbrev cX12_append : ByteArray := prog_14_method_19_code
def yX12_append : MethodName := ⟨RX12, "append", "(II)V"⟩
abbrev cX12_isAlike : ByteArray := prog_14_method_20_code
def yX12_isAlike : MethodName := ⟨RX12, "isAlike", "(II)Z"⟩
abbrev cX12_isOther : ByteArray := prog_14_method_21_code
def yX12_isOther : MethodName := ⟨RX12, "isOther", "(II)Z"⟩
abbrev cX12_hasDirectory : ByteArray := prog_14_method_22_code
def yX12_hasDirectory : MethodName := ⟨RX12, "hasDirectory", "()Z"⟩
abbrev cX12_make : ByteArray := prog_14_method_23_code
def yX12_make : MethodName := ⟨RX12, "make", "(III)I"⟩
abbrev cX12_refused : ByteArray := prog_14_method_24_code
def yX12_refused : MethodName := ⟨RX12, "refused", "(I)I"⟩
abbrev cX12_choose : ByteArray := prog_14_method_25_code
def yX12_choose : MethodName := ⟨RX12, "choose", "()I"⟩
abbrev cX12_write : ByteArray := prog_14_method_26_code
def yX12_write : MethodName := ⟨RX12, "write", "(I)I"⟩
abbrev cX12_cut : ByteArray := prog_14_method_27_code
def yX12_cut : MethodName := ⟨RX12, "cut", "(I)V"⟩
abbrev cX12_set : ByteArray := prog_14_method_28_code
def yX12_set : MethodName := ⟨RX12, "set", "(IIZ)V"⟩
abbrev cX12_remove : ByteArray := prog_14_method_29_code
def yX12_remove : MethodName := ⟨RX12, "remove", "()I"⟩
abbrev cX12_plan : ByteArray := prog_14_method_30_code
def yX12_plan : MethodName := ⟨RX12, "plan", "(III)V"⟩
abbrev cX12_startPlan : ByteArray := prog_14_method_31_code
def yX12_startPlan : MethodName := ⟨RX12, "startPlan", "()V"⟩
abbrev cX12_keep : ByteArray := prog_14_method_32_code
def yX12_keep : MethodName := ⟨RX12, "keep", "()V"⟩
abbrev cX12_fallBack : ByteArray := prog_14_method_33_code
def yX12_fallBack : MethodName := ⟨RX12, "fallBack", "()V"⟩
abbrev cX12_act : ByteArray := prog_14_method_34_code
def yX12_act : MethodName := ⟨RX12, "act", "(I)V"⟩
abbrev cX12_actNext : ByteArray := prog_14_method_35_code
def yX12_actNext : MethodName := ⟨RX12, "actNext", "()V"⟩
abbrev cX12_rest : ByteArray := prog_14_method_36_code
def yX12_rest : MethodName := ⟨RX12, "rest", "()V"⟩
abbrev cX12_clearSlot : ByteArray := prog_14_method_37_code
def yX12_clearSlot : MethodName := ⟨RX12, "clearSlot", "(I)V"⟩
abbrev cX12_moveSlot : ByteArray := prog_14_method_38_code
def yX12_moveSlot : MethodName := ⟨RX12, "moveSlot", "(II)V"⟩
abbrev cX12_step : ByteArray := prog_14_method_39_code
def yX12_step : MethodName := ⟨RX12, "step", "(I)I"⟩
abbrev cX12_crash : ByteArray := prog_14_method_40_code
def yX12_crash : MethodName := ⟨RX12, "crash", "(I)I"⟩
abbrev cX12_latest : ByteArray := prog_14_method_41_code
def yX12_latest : MethodName := ⟨RX12, "latest", "()I"⟩
abbrev cX12_sessions : ByteArray := prog_14_method_42_code
def yX12_sessions : MethodName := ⟨RX12, "sessions", "()I"⟩
abbrev cX12_sessionOf : ByteArray := prog_14_method_43_code
def yX12_sessionOf : MethodName := ⟨RX12, "sessionOf", "(I)I"⟩
abbrev cX12_findTree : ByteArray := prog_14_method_44_code
def yX12_findTree : MethodName := ⟨RX12, "findTree", "(II)V"⟩
abbrev cX12_meet : ByteArray := prog_14_method_45_code
def yX12_meet : MethodName := ⟨RX12, "meet", "(III)V"⟩
abbrev cX12_findChanges : ByteArray := prog_14_method_46_code
def yX12_findChanges : MethodName := ⟨RX12, "findChanges", "(II)V"⟩
abbrev cX12_planSession : ByteArray := prog_14_method_47_code
def yX12_planSession : MethodName := ⟨RX12, "planSession", "(I)V"⟩
abbrev cX12_isTooEarly : ByteArray := prog_14_method_48_code
def yX12_isTooEarly : MethodName := ⟨RX12, "isTooEarly", "(I)Z"⟩
abbrev cX12_beginSession : ByteArray := prog_14_method_49_code
def yX12_beginSession : MethodName := ⟨RX12, "beginSession", "(I)I"⟩
abbrev cX12_begin : ByteArray := prog_14_method_50_code
def yX12_begin : MethodName := ⟨RX12, "begin", "(I)I"⟩
abbrev cX12_planMarks : ByteArray := prog_14_method_51_code
def yX12_planMarks : MethodName := ⟨RX12, "planMarks", "(II)V"⟩
abbrev cX12_planIncrements : ByteArray := prog_14_method_52_code
def yX12_planIncrements : MethodName := ⟨RX12, "planIncrements", "(I)V"⟩
abbrev cX12_pruneTo : ByteArray := prog_14_method_53_code
def yX12_pruneTo : MethodName := ⟨RX12, "pruneTo", "(I)I"⟩
abbrev cX12_prune : ByteArray := prog_14_method_54_code
def yX12_prune : MethodName := ⟨RX12, "prune", "()I"⟩
abbrev cX12_planUndo : ByteArray := prog_14_method_55_code
def yX12_planUndo : MethodName := ⟨RX12, "planUndo", "()V"⟩
abbrev cX12_planFinish : ByteArray := prog_14_method_56_code
def yX12_planFinish : MethodName := ⟨RX12, "planFinish", "()V"⟩
abbrev cX12_recoverAll : ByteArray := prog_14_method_57_code
def yX12_recoverAll : MethodName := ⟨RX12, "recoverAll", "()I"⟩
abbrev cX12_recover : ByteArray := prog_14_method_58_code
def yX12_recover : MethodName := ⟨RX12, "recover", "()I"⟩
abbrev cX12_isDigit : ByteArray := prog_14_method_59_code
def yX12_isDigit : MethodName := ⟨RX12, "isDigit", "(I)Z"⟩
abbrev cX12_digits : ByteArray := prog_14_method_60_code
def yX12_digits : MethodName := ⟨RX12, "digits", "(II)I"⟩
abbrev cX12_number : ByteArray := prog_14_method_61_code
def yX12_number : MethodName := ⟨RX12, "number", "(II)J"⟩
abbrev cX12_unit : ByteArray := prog_14_method_62_code
def yX12_unit : MethodName := ⟨RX12, "unit", "(I)I"⟩
abbrev cX12_notAbove : ByteArray := prog_14_method_63_code
def yX12_notAbove : MethodName := ⟨RX12, "notAbove", "(J)I"⟩
abbrev cX12_meaning : ByteArray := prog_14_method_64_code
def yX12_meaning : MethodName := ⟨RX12, "meaning", "(II)I"⟩
abbrev cX12_take : ByteArray := prog_14_method_65_code
def yX12_take : MethodName := ⟨RX12, "take", "(IZ)V"⟩
abbrev cX12_restore : ByteArray := prog_14_method_66_code
def yX12_restore : MethodName := ⟨RX12, "restore", "()I"⟩
abbrev cX12_verify : ByteArray := prog_14_method_67_code
def yX12_verify : MethodName := ⟨RX12, "verify", "()I"⟩
abbrev cX12_entryOf : ByteArray := prog_14_method_68_code
def yX12_entryOf : MethodName := ⟨RX12, "entryOf", "(II)I"⟩
abbrev cX12_entry : ByteArray := prog_14_method_69_code
def yX12_entry : MethodName := ⟨RX12, "entry", "(III)I"⟩
abbrev cX12_at : ByteArray := prog_14_method_70_code
def yX12_at : MethodName := ⟨RX12, "at", "(IIZI)I"⟩
abbrev cX12_turned : ByteArray := prog_14_method_71_code
def yX12_turned : MethodName := ⟨RX12, "turned", "(II)I"⟩
abbrev cX12_padded : ByteArray := prog_14_method_72_code
def yX12_padded : MethodName := ⟨RX12, "padded", "(III)I"⟩
abbrev cX12_block : ByteArray := prog_14_method_73_code
def yX12_block : MethodName := ⟨RX12, "block", "(III)V"⟩
abbrev cX12_sum : ByteArray := prog_14_method_74_code
def yX12_sum : MethodName := ⟨RX12, "sum", "(II)I"⟩
abbrev cX12_about : ByteArray := prog_14_method_75_code
def yX12_about : MethodName := ⟨RX12, "about", "(I)I"⟩
abbrev cX12_marks : ByteArray := prog_14_method_76_code
def yX12_marks : MethodName := ⟨RX12, "marks", "([ZI)I"⟩
abbrev cX12_disk : ByteArray := prog_14_method_77_code
def yX12_disk : MethodName := ⟨RX12, "disk", "(I)I"⟩
abbrev cX12_session : ByteArray := prog_14_method_78_code
def yX12_session : MethodName := ⟨RX12, "session", "(II)I"⟩
abbrev cX12_findWords : ByteArray := prog_14_method_79_code
def yX12_findWords : MethodName := ⟨RX12, "findWords", "()V"⟩
abbrev cX12_word : ByteArray := prog_14_method_80_code
def yX12_word : MethodName := ⟨RX12, "word", "(I)J"⟩
abbrev cX12_hexadecimal : ByteArray := prog_14_method_81_code
def yX12_hexadecimal : MethodName := ⟨RX12, "hexadecimal", "(I)I"⟩
abbrev cX12_isNamed : ByteArray := prog_14_method_82_code
def yX12_isNamed : MethodName := ⟨RX12, "isNamed", "(I)Z"⟩
abbrev cX12_say : ByteArray := prog_14_method_83_code
def yX12_say : MethodName := ⟨RX12, "say", "(I)V"⟩
abbrev cX12_sayWord : ByteArray := prog_14_method_84_code
def yX12_sayWord : MethodName := ⟨RX12, "sayWord", "(J)V"⟩
abbrev cX12_sayNumber : ByteArray := prog_14_method_85_code
def yX12_sayNumber : MethodName := ⟨RX12, "sayNumber", "(I)V"⟩
abbrev cX12_sayLine : ByteArray := prog_14_method_86_code
def yX12_sayLine : MethodName := ⟨RX12, "sayLine", "(JI)V"⟩
abbrev cX12_sayPath : ByteArray := prog_14_method_87_code
def yX12_sayPath : MethodName := ⟨RX12, "sayPath", "(I)V"⟩
abbrev cX12_stepAll : ByteArray := prog_14_method_88_code
def yX12_stepAll : MethodName := ⟨RX12, "stepAll", "()V"⟩
abbrev cX12_backup : ByteArray := prog_14_method_89_code
def yX12_backup : MethodName := ⟨RX12, "backup", "()I"⟩
abbrev cX12_check : ByteArray := prog_14_method_90_code
def yX12_check : MethodName := ⟨RX12, "check", "()I"⟩
abbrev cX12_chosenTree : ByteArray := prog_14_method_91_code
def yX12_chosenTree : MethodName := ⟨RX12, "chosenTree", "(I)I"⟩
abbrev cX12_commandRestore : ByteArray := prog_14_method_92_code
def yX12_commandRestore : MethodName := ⟨RX12, "commandRestore", "(I)I"⟩
abbrev cX12_commandList : ByteArray := prog_14_method_93_code
def yX12_commandList : MethodName := ⟨RX12, "commandList", "(I)I"⟩
abbrev cX12_sayChange : ByteArray := prog_14_method_94_code
def yX12_sayChange : MethodName := ⟨RX12, "sayChange", "(JI)V"⟩
abbrev cX12_commandChanges : ByteArray := prog_14_method_95_code
def yX12_commandChanges : MethodName := ⟨RX12, "commandChanges", "(II)I"⟩
abbrev cX12_commandSessions : ByteArray := prog_14_method_96_code
def yX12_commandSessions : MethodName := ⟨RX12, "commandSessions", "()I"⟩
abbrev cX12_commandPrune : ByteArray := prog_14_method_97_code
def yX12_commandPrune : MethodName := ⟨RX12, "commandPrune", "(I)I"⟩
abbrev cX12_commandVerify : ByteArray := prog_14_method_98_code
def yX12_commandVerify : MethodName := ⟨RX12, "commandVerify", "(I)I"⟩
abbrev cX12_run : ByteArray := prog_14_method_99_code
def yX12_run : MethodName := ⟨RX12, "run", "(J)I"⟩
abbrev cX12_command : ByteArray := prog_14_method_100_code
def yX12_command : MethodName := ⟨RX12, "command", "()I"⟩
abbrev cX12_output : ByteArray := prog_14_method_101_code
def yX12_output : MethodName := ⟨RX12, "output", "()I"⟩
abbrev cX12_outputAt : ByteArray := prog_14_method_102_code
def yX12_outputAt : MethodName := ⟨RX12, "outputAt", "(I)I"⟩
def RJx145de : String := "java/io/Serializable"
def TJx145de : u_T := fun k => match k with
  | _ => ("", "", "", false)
def tyJx145de : Nat → FieldType := fun k => match k with
  | _ => .int
theorem nmJx145de : ∀ a, a < 0 → ∀ b, b < 0 → a ≠ b → (TJx145de a).2.1 ≠ (TJx145de b).2.1 := by decide +kernel
theorem tyJx145de_ok : ∀ k, k < 0 → parseFieldDescriptor (TJx145de k).2.2.1 = some (tyJx145de k) := by decide +kernel
def RJ11 : String := "java/lang/Character"
def TJ11 : u_T := fun k => match k with
  | _ => ("", "", "", false)
def tyJ11 : Nat → FieldType := fun k => match k with
  | _ => .int
theorem nmJ11 : ∀ a, a < 0 → ∀ b, b < 0 → a ≠ b → (TJ11 a).2.1 ≠ (TJ11 b).2.1 := by decide +kernel
theorem tyJ11_ok : ∀ k, k < 0 → parseFieldDescriptor (TJ11 k).2.2.1 = some (tyJ11 k) := by decide +kernel
abbrev cJ11_isValidCodePoint_9a6ad : ByteArray := prog_16_method_11_code
def yJ11_isValidCodePoint_9a6ad : MethodName := ⟨RJ11, "isValidCodePoint", "(I)Z"⟩
abbrev cJ11_highSurrogate_5068e : ByteArray := prog_16_method_28_code
def yJ11_highSurrogate_5068e : MethodName := ⟨RJ11, "highSurrogate", "(I)C"⟩
abbrev cJ11_lowSurrogate_5068e : ByteArray := prog_16_method_29_code
def yJ11_lowSurrogate_5068e : MethodName := ⟨RJ11, "lowSurrogate", "(I)C"⟩
def RJx8e188 : String := "java/lang/Cloneable"
def TJx8e188 : u_T := fun k => match k with
  | _ => ("", "", "", false)
def tyJx8e188 : Nat → FieldType := fun k => match k with
  | _ => .int
theorem nmJx8e188 : ∀ a, a < 0 → ∀ b, b < 0 → a ≠ b → (TJx8e188 a).2.1 ≠ (TJx8e188 b).2.1 := by decide +kernel
theorem tyJx8e188_ok : ∀ k, k < 0 → parseFieldDescriptor (TJx8e188 k).2.2.1 = some (tyJx8e188 k) := by decide +kernel
def RJ6 : String := "java/lang/Integer"
def TJ6 : u_T := fun k => match k with
  | _ => ("", "", "", false)
def tyJ6 : Nat → FieldType := fun k => match k with
  | _ => .int
theorem nmJ6 : ∀ a, a < 0 → ∀ b, b < 0 → a ≠ b → (TJ6 a).2.1 ≠ (TJ6 b).2.1 := by decide +kernel
theorem tyJ6_ok : ∀ k, k < 0 → parseFieldDescriptor (TJ6 k).2.2.1 = some (tyJ6 k) := by decide +kernel
abbrev cJ6_compare_7cf53 : ByteArray := prog_21_method_40_code
def yJ6_compare_7cf53 : MethodName := ⟨RJ6, "compare", "(II)I"⟩
def RJxab1ab : String := "java/lang/Iterable"
def TJxab1ab : u_T := fun k => match k with
  | _ => ("", "", "", false)
def tyJxab1ab : Nat → FieldType := fun k => match k with
  | _ => .int
theorem nmJxab1ab : ∀ a, a < 0 → ∀ b, b < 0 → a ≠ b → (TJxab1ab a).2.1 ≠ (TJxab1ab b).2.1 := by decide +kernel
theorem tyJxab1ab_ok : ∀ k, k < 0 → parseFieldDescriptor (TJxab1ab k).2.2.1 = some (tyJxab1ab k) := by decide +kernel
def RJ9 : String := "java/lang/Math"
def TJ9 : u_T := fun k => match k with
  | _ => ("", "", "", false)
def tyJ9 : Nat → FieldType := fun k => match k with
  | _ => .int
theorem nmJ9 : ∀ a, a < 0 → ∀ b, b < 0 → a ≠ b → (TJ9 a).2.1 ≠ (TJ9 b).2.1 := by decide +kernel
theorem tyJ9_ok : ∀ k, k < 0 → parseFieldDescriptor (TJ9 k).2.2.1 = some (tyJ9 k) := by decide +kernel
abbrev cJ9_max_7cf53 : ByteArray := prog_23_method_65_code
def yJ9_max_7cf53 : MethodName := ⟨RJ9, "max", "(II)I"⟩
abbrev cJ9_max_f86c9 : ByteArray := prog_23_method_66_code
def yJ9_max_f86c9 : MethodName := ⟨RJ9, "max", "(JJ)J"⟩
abbrev cJ9_min_7cf53 : ByteArray := prog_23_method_69_code
def yJ9_min_7cf53 : MethodName := ⟨RJ9, "min", "(II)I"⟩
def RJ0 : String := "java/lang/String"
def TJ0 : u_T := fun k => match k with
  | _ => ("", "", "", false)
def tyJ0 : Nat → FieldType := fun k => match k with
  | _ => .int
theorem nmJ0 : ∀ a, a < 0 → ∀ b, b < 0 → a ≠ b → (TJ0 a).2.1 ≠ (TJ0 b).2.1 := by decide +kernel
theorem tyJ0_ok : ∀ k, k < 0 → parseFieldDescriptor (TJ0 k).2.2.1 = some (tyJ0 k) := by decide +kernel
abbrev cJ0_length_8abf5 : ByteArray := prog_25_method_54_code
def yJ0_length_8abf5 : MethodName := ⟨RJ0, "length", "()I"⟩
abbrev cJ0_charAt_5068e : ByteArray := prog_25_method_56_code
def yJ0_charAt_5068e : MethodName := ⟨RJ0, "charAt", "(I)C"⟩
abbrev cJ0_indexOf_0f7a4 : ByteArray := prog_25_method_79_code
def yJ0_indexOf_0f7a4 : MethodName := ⟨RJ0, "indexOf", "(I)I"⟩
abbrev cJ0_indexOf_7cf53 : ByteArray := prog_25_method_80_code
def yJ0_indexOf_7cf53 : MethodName := ⟨RJ0, "indexOf", "(II)I"⟩
abbrev cJ0_coder_7d493 : ByteArray := prog_25_method_152_code
def yJ0_coder_7d493 : MethodName := ⟨RJ0, "coder", "()B"⟩
abbrev cJ0_isLatin1_aae02 : ByteArray := prog_25_method_154_code
def yJ0_isLatin1_aae02 : MethodName := ⟨RJ0, "isLatin1", "()Z"⟩
abbrev cJ0_checkIndex_df160 : ByteArray := prog_25_method_155_code
def yJ0_checkIndex_df160 : MethodName := ⟨RJ0, "checkIndex", "(II)V"⟩
abbrev cJ0_checkBoundsBeginEnd_23922 : ByteArray := prog_25_method_158_code
def yJ0_checkBoundsBeginEnd_23922 : MethodName := ⟨RJ0, "checkBoundsBeginEnd", "(III)V"⟩
def RJ1 : String := "java/lang/StringLatin1"
def TJ1 : u_T := fun k => match k with
  | _ => ("", "", "", false)
def tyJ1 : Nat → FieldType := fun k => match k with
  | _ => .int
theorem nmJ1 : ∀ a, a < 0 → ∀ b, b < 0 → a ≠ b → (TJ1 a).2.1 ≠ (TJ1 b).2.1 := by decide +kernel
theorem tyJ1_ok : ∀ k, k < 0 → parseFieldDescriptor (TJ1 k).2.2.1 = some (tyJ1 k) := by decide +kernel
abbrev cJ1_charAt_3b067 : ByteArray := prog_26_method_2_code
def yJ1_charAt_3b067 : MethodName := ⟨RJ1, "charAt", "([BI)C"⟩
abbrev cJ1_canEncode_9a6ad : ByteArray := prog_26_method_4_code
def yJ1_canEncode_9a6ad : MethodName := ⟨RJ1, "canEncode", "(I)Z"⟩
abbrev cJ1_indexOf_4cfef : ByteArray := prog_26_method_22_code
def yJ1_indexOf_4cfef : MethodName := ⟨RJ1, "indexOf", "([BIII)I"⟩
abbrev cJ1_indexOfChar_4cfef : ByteArray := prog_26_method_23_code
def yJ1_indexOfChar_4cfef : MethodName := ⟨RJ1, "indexOfChar", "([BIII)I"⟩
def RJ2 : String := "java/lang/StringUTF16"
def TJ2 : u_T := fun k => match k with
  | _ => ("", "", "", false)
def tyJ2 : Nat → FieldType := fun k => match k with
  | _ => .int
theorem nmJ2 : ∀ a, a < 0 → ∀ b, b < 0 → a ≠ b → (TJ2 a).2.1 ≠ (TJ2 b).2.1 := by decide +kernel
theorem tyJ2_ok : ∀ k, k < 0 → parseFieldDescriptor (TJ2 k).2.2.1 = some (tyJ2 k) := by decide +kernel
abbrev cJ2_getChar_3b067 : ByteArray := prog_27_method_5_code
def yJ2_getChar_3b067 : MethodName := ⟨RJ2, "getChar", "([BI)C"⟩
abbrev cJ2_length_9d52b : ByteArray := prog_27_method_6_code
def yJ2_length_9d52b : MethodName := ⟨RJ2, "length", "([B)I"⟩
abbrev cJ2_indexOf_4cfef : ByteArray := prog_27_method_40_code
def yJ2_indexOf_4cfef : MethodName := ⟨RJ2, "indexOf", "([BIII)I"⟩
abbrev cJ2_indexOfChar_4cfef : ByteArray := prog_27_method_47_code
def yJ2_indexOfChar_4cfef : MethodName := ⟨RJ2, "indexOfChar", "([BIII)I"⟩
abbrev cJ2_indexOfCharUnsafe_4cfef : ByteArray := prog_27_method_48_code
def yJ2_indexOfCharUnsafe_4cfef : MethodName := ⟨RJ2, "indexOfCharUnsafe", "([BIII)I"⟩
abbrev cJ2_indexOfSupplementary_4cfef : ByteArray := prog_27_method_49_code
def yJ2_indexOfSupplementary_4cfef : MethodName := ⟨RJ2, "indexOfSupplementary", "([BIII)I"⟩
abbrev cJ2_charAt_3b067 : ByteArray := prog_27_method_83_code
def yJ2_charAt_3b067 : MethodName := ⟨RJ2, "charAt", "([BI)C"⟩
abbrev cJ2_checkIndex_2214a : ByteArray := prog_27_method_91_code
def yJ2_checkIndex_2214a : MethodName := ⟨RJ2, "checkIndex", "(I[B)V"⟩
abbrev cJ2_checkBoundsBeginEnd_d044e : ByteArray := prog_27_method_93_code
def yJ2_checkBoundsBeginEnd_d044e : MethodName := ⟨RJ2, "checkBoundsBeginEnd", "(II[B)V"⟩
def RJ10 : String := "java/lang/System"
def TJ10 : u_T := fun k => match k with
  | _ => ("", "", "", false)
def tyJ10 : Nat → FieldType := fun k => match k with
  | _ => .int
theorem nmJ10 : ∀ a, a < 0 → ∀ b, b < 0 → a ≠ b → (TJ10 a).2.1 ≠ (TJ10 b).2.1 := by decide +kernel
theorem tyJ10_ok : ∀ k, k < 0 → parseFieldDescriptor (TJ10 k).2.2.1 = some (tyJ10 k) := by decide +kernel
def RJxa1e45 : String := "java/util/AbstractCollection"
def TJxa1e45 : u_T := fun k => match k with
  | _ => ("", "", "", false)
def tyJxa1e45 : Nat → FieldType := fun k => match k with
  | _ => .int
theorem nmJxa1e45 : ∀ a, a < 0 → ∀ b, b < 0 → a ≠ b → (TJxa1e45 a).2.1 ≠ (TJxa1e45 b).2.1 := by decide +kernel
theorem tyJxa1e45_ok : ∀ k, k < 0 → parseFieldDescriptor (TJxa1e45 k).2.2.1 = some (tyJxa1e45 k) := by decide +kernel
abbrev cJxa1e45_init_da8c8 : ByteArray := prog_30_method_1_code
def yJxa1e45_init_da8c8 : MethodName := ⟨RJxa1e45, "<init>", "()V"⟩
def RJxc12de : String := "java/util/AbstractList"
def TJxc12de : u_T := fun k => match k with
  | _ => ("", "", "", false)
def tyJxc12de : Nat → FieldType := fun k => match k with
  | _ => .int
theorem nmJxc12de : ∀ a, a < 0 → ∀ b, b < 0 → a ≠ b → (TJxc12de a).2.1 ≠ (TJxc12de b).2.1 := by decide +kernel
theorem tyJxc12de_ok : ∀ k, k < 0 → parseFieldDescriptor (TJxc12de k).2.2.1 = some (tyJxc12de k) := by decide +kernel
abbrev cJxc12de_init_da8c8 : ByteArray := prog_31_method_1_code
def yJxc12de_init_da8c8 : MethodName := ⟨RJxc12de, "<init>", "()V"⟩
def RJx4a65c : String := "java/util/ArrayList"
def TJx4a65c : u_T := fun k => match k with
  | 0 => ("java/util/AbstractList", "modCount", "I", false)
  | 1 => ("java/util/ArrayList", "elementData", "[Ljava/lang/Object;", false)
  | _ => ("java/util/ArrayList", "size", "I", false)
def tyJx4a65c : Nat → FieldType := fun k => match k with
  | 0 => .int
  | 1 => .array (.object "java/lang/Object")
  | _ => .int
theorem nmJx4a65c : ∀ a, a < 3 → ∀ b, b < 3 → a ≠ b → (TJx4a65c a).2.1 ≠ (TJx4a65c b).2.1 := by decide +kernel
theorem tyJx4a65c_ok : ∀ k, k < 3 → parseFieldDescriptor (TJx4a65c k).2.2.1 = some (tyJx4a65c k) := by decide +kernel
abbrev cJx4a65c_init_da8c8 : ByteArray := prog_32_method_2_code
def yJx4a65c_init_da8c8 : MethodName := ⟨RJx4a65c, "<init>", "()V"⟩
abbrev cJx4a65c_grow_92f84 : ByteArray := prog_32_method_6_code
def yJx4a65c_grow_92f84 : MethodName := ⟨RJx4a65c, "grow", "(I)[Ljava/lang/Object;"⟩
abbrev cJx4a65c_grow_d5877 : ByteArray := prog_32_method_7_code
def yJx4a65c_grow_d5877 : MethodName := ⟨RJx4a65c, "grow", "()[Ljava/lang/Object;"⟩
abbrev cJx4a65c_size_8abf5 : ByteArray := prog_32_method_8_code
def yJx4a65c_size_8abf5 : MethodName := ⟨RJx4a65c, "size", "()I"⟩
abbrev cJx4a65c_elementData_915e3 : ByteArray := prog_32_method_18_code
def yJx4a65c_elementData_915e3 : MethodName := ⟨RJx4a65c, "elementData", "(I)Ljava/lang/Object;"⟩
abbrev cJx4a65c_get_915e3 : ByteArray := prog_32_method_20_code
def yJx4a65c_get_915e3 : MethodName := ⟨RJx4a65c, "get", "(I)Ljava/lang/Object;"⟩
abbrev cJx4a65c_set_bcc79 : ByteArray := prog_32_method_23_code
def yJx4a65c_set_bcc79 : MethodName := ⟨RJx4a65c, "set", "(ILjava/lang/Object;)Ljava/lang/Object;"⟩
abbrev cJx4a65c_add_72be8 : ByteArray := prog_32_method_24_code
def yJx4a65c_add_72be8 : MethodName := ⟨RJx4a65c, "add", "(Ljava/lang/Object;[Ljava/lang/Object;I)V"⟩
abbrev cJx4a65c_add_9ea2d : ByteArray := prog_32_method_25_code
def yJx4a65c_add_9ea2d : MethodName := ⟨RJx4a65c, "add", "(Ljava/lang/Object;)Z"⟩
abbrev cJx4a65c_add_7a177 : ByteArray := prog_32_method_26_code
def yJx4a65c_add_7a177 : MethodName := ⟨RJx4a65c, "add", "(ILjava/lang/Object;)V"⟩
abbrev cJx4a65c_remove_915e3 : ByteArray := prog_32_method_29_code
def yJx4a65c_remove_915e3 : MethodName := ⟨RJx4a65c, "remove", "(I)Ljava/lang/Object;"⟩
abbrev cJx4a65c_fastRemove_b59b0 : ByteArray := prog_32_method_39_code
def yJx4a65c_fastRemove_b59b0 : MethodName := ⟨RJx4a65c, "fastRemove", "([Ljava/lang/Object;I)V"⟩
abbrev cJx4a65c_clear_da8c8 : ByteArray := prog_32_method_40_code
def yJx4a65c_clear_da8c8 : MethodName := ⟨RJx4a65c, "clear", "()V"⟩
abbrev cJx4a65c_rangeCheckForAdd_d00df : ByteArray := prog_32_method_45_code
def yJx4a65c_rangeCheckForAdd_d00df : MethodName := ⟨RJx4a65c, "rangeCheckForAdd", "(I)V"⟩
def RJ7 : String := "java/util/Arrays"
def TJ7 : u_T := fun k => match k with
  | _ => ("", "", "", false)
def tyJ7 : Nat → FieldType := fun k => match k with
  | _ => .int
theorem nmJ7 : ∀ a, a < 0 → ∀ b, b < 0 → a ≠ b → (TJ7 a).2.1 ≠ (TJ7 b).2.1 := by decide +kernel
theorem tyJ7_ok : ∀ k, k < 0 → parseFieldDescriptor (TJ7 k).2.2.1 = some (tyJ7 k) := by decide +kernel
abbrev cJ7_fill_031fb : ByteArray := prog_33_method_109_code
def yJ7_fill_031fb : MethodName := ⟨RJ7, "fill", "([BB)V"⟩
abbrev cJ7_copyOf_1904c : ByteArray := prog_33_method_119_code
def yJ7_copyOf_1904c : MethodName := ⟨RJ7, "copyOf", "([Ljava/lang/Object;I)[Ljava/lang/Object;"⟩
abbrev cJ7_copyOf_6403c : ByteArray := prog_33_method_120_code
def yJ7_copyOf_6403c : MethodName := ⟨RJ7, "copyOf", "([Ljava/lang/Object;ILjava/lang/Class;)[Ljava/lang/Object;"⟩
abbrev cJ7_copyOf_9075b : ByteArray := prog_33_method_121_code
def yJ7_copyOf_9075b : MethodName := ⟨RJ7, "copyOf", "([BI)[B"⟩
def RJx5ef63 : String := "java/util/Collection"
def TJx5ef63 : u_T := fun k => match k with
  | _ => ("", "", "", false)
def tyJx5ef63 : Nat → FieldType := fun k => match k with
  | _ => .int
theorem nmJx5ef63 : ∀ a, a < 0 → ∀ b, b < 0 → a ≠ b → (TJx5ef63 a).2.1 ≠ (TJx5ef63 b).2.1 := by decide +kernel
theorem tyJx5ef63_ok : ∀ k, k < 0 → parseFieldDescriptor (TJx5ef63 k).2.2.1 = some (tyJx5ef63 k) := by decide +kernel
def RJxbd725 : String := "java/util/List"
def TJxbd725 : u_T := fun k => match k with
  | _ => ("", "", "", false)
def tyJxbd725 : Nat → FieldType := fun k => match k with
  | _ => .int
theorem nmJxbd725 : ∀ a, a < 0 → ∀ b, b < 0 → a ≠ b → (TJxbd725 a).2.1 ≠ (TJxbd725 b).2.1 := by decide +kernel
theorem tyJxbd725_ok : ∀ k, k < 0 → parseFieldDescriptor (TJxbd725 k).2.2.1 = some (tyJxbd725 k) := by decide +kernel
def RJ15 : String := "java/util/Objects"
def TJ15 : u_T := fun k => match k with
  | _ => ("", "", "", false)
def tyJ15 : Nat → FieldType := fun k => match k with
  | _ => .int
theorem nmJ15 : ∀ a, a < 0 → ∀ b, b < 0 → a ≠ b → (TJ15 a).2.1 ≠ (TJ15 b).2.1 := by decide +kernel
theorem tyJ15_ok : ∀ k, k < 0 → parseFieldDescriptor (TJ15 k).2.2.1 = some (tyJ15 k) := by decide +kernel
abbrev cJ15_checkIndex_7cf53 : ByteArray := prog_36_method_17_code
def yJ15_checkIndex_7cf53 : MethodName := ⟨RJ15, "checkIndex", "(II)I"⟩
def RJxf0a74 : String := "java/util/RandomAccess"
def TJxf0a74 : u_T := fun k => match k with
  | _ => ("", "", "", false)
def tyJxf0a74 : Nat → FieldType := fun k => match k with
  | _ => .int
theorem nmJxf0a74 : ∀ a, a < 0 → ∀ b, b < 0 → a ≠ b → (TJxf0a74 a).2.1 ≠ (TJxf0a74 b).2.1 := by decide +kernel
theorem tyJxf0a74_ok : ∀ k, k < 0 → parseFieldDescriptor (TJxf0a74 k).2.2.1 = some (tyJxf0a74 k) := by decide +kernel
def RJxa66e6 : String := "java/util/SequencedCollection"
def TJxa66e6 : u_T := fun k => match k with
  | _ => ("", "", "", false)
def tyJxa66e6 : Nat → FieldType := fun k => match k with
  | _ => .int
theorem nmJxa66e6 : ∀ a, a < 0 → ∀ b, b < 0 → a ≠ b → (TJxa66e6 a).2.1 ≠ (TJxa66e6 b).2.1 := by decide +kernel
theorem tyJxa66e6_ok : ∀ k, k < 0 → parseFieldDescriptor (TJxa66e6 k).2.2.1 = some (tyJxa66e6 k) := by decide +kernel
def RJ8 : String := "jdk/internal/util/ArraysSupport"
def TJ8 : u_T := fun k => match k with
  | _ => ("", "", "", false)
def tyJ8 : Nat → FieldType := fun k => match k with
  | _ => .int
theorem nmJ8 : ∀ a, a < 0 → ∀ b, b < 0 → a ≠ b → (TJ8 a).2.1 ≠ (TJ8 b).2.1 := by decide +kernel
theorem tyJ8_ok : ∀ k, k < 0 → parseFieldDescriptor (TJ8 k).2.2.1 = some (tyJ8 k) := by decide +kernel
abbrev cJ8_newLength_cabcc : ByteArray := prog_39_method_27_code
def yJ8_newLength_cabcc : MethodName := ⟨RJ8, "newLength", "(III)I"⟩
abbrev cJ8_hugeLength_7cf53 : ByteArray := prog_39_method_28_code
def yJ8_hugeLength_7cf53 : MethodName := ⟨RJ8, "hugeLength", "(II)I"⟩
def RJ3 : String := "jdk/internal/util/Preconditions"
def TJ3 : u_T := fun k => match k with
  | _ => ("", "", "", false)
def tyJ3 : Nat → FieldType := fun k => match k with
  | _ => .int
theorem nmJ3 : ∀ a, a < 0 → ∀ b, b < 0 → a ≠ b → (TJ3 a).2.1 ≠ (TJ3 b).2.1 := by decide +kernel
theorem tyJ3_ok : ∀ k, k < 0 → parseFieldDescriptor (TJ3 k).2.2.1 = some (tyJ3 k) := by decide +kernel
abbrev cJ3_checkIndex_8e157 : ByteArray := prog_40_method_11_code
def yJ3_checkIndex_8e157 : MethodName := ⟨RJ3, "checkIndex", "(IILjava/util/function/BiFunction;)I"⟩
abbrev cJ3_checkFromToIndex_8c36e : ByteArray := prog_40_method_12_code
def yJ3_checkFromToIndex_8c36e : MethodName := ⟨RJ3, "checkFromToIndex", "(IIILjava/util/function/BiFunction;)I"⟩
def RL : String := "MirrorWorksLaw"
abbrev cL_make : ByteArray := method_3_code
def yL_make : MethodName := ⟨RL, "make", "(LMirrorWorks;III[J)I"⟩
abbrev cL_write : ByteArray := method_4_code
def yL_write : MethodName := ⟨RL, "write", "(LMirrorWorks;I[J)I"⟩
abbrev cL_cut : ByteArray := method_5_code
def yL_cut : MethodName := ⟨RL, "cut", "(LMirrorWorks;I)I"⟩
abbrev cL_set : ByteArray := method_6_code
def yL_set : MethodName := ⟨RL, "set", "(LMirrorWorks;IIZ)I"⟩
abbrev cL_remove : ByteArray := method_7_code
def yL_remove : MethodName := ⟨RL, "remove", "(LMirrorWorks;[J)I"⟩
abbrev cL_begin : ByteArray := method_8_code
def yL_begin : MethodName := ⟨RL, "begin", "(LMirrorWorks;I[J)I"⟩
abbrev cL_prune : ByteArray := method_9_code
def yL_prune : MethodName := ⟨RL, "prune", "(LMirrorWorks;[J)I"⟩
abbrev cL_recover : ByteArray := method_10_code
def yL_recover : MethodName := ⟨RL, "recover", "(LMirrorWorks;[J)I"⟩
abbrev cL_step : ByteArray := method_11_code
def yL_step : MethodName := ⟨RL, "step", "(LMirrorWorks;I[J)I"⟩
abbrev cL_crash : ByteArray := method_12_code
def yL_crash : MethodName := ⟨RL, "crash", "(LMirrorWorks;I[J)I"⟩
abbrev cL_restore : ByteArray := method_13_code
def yL_restore : MethodName := ⟨RL, "restore", "(LMirrorWorks;[J)I"⟩
abbrev cL_verify : ByteArray := method_14_code
def yL_verify : MethodName := ⟨RL, "verify", "(LMirrorWorks;[J)I"⟩
abbrev cL_command : ByteArray := method_15_code
def yL_command : MethodName := ⟨RL, "command", "(LMirrorWorks;[J)I"⟩
abbrev cL_law : ByteArray := code
def yL_law : MethodName := ⟨RL, "law", "([I)Z"⟩
abbrev vwCl : List vw_C := [(RJx4a65c, TJx4a65c, 3), (RX1, TX1, 6), (RX2, TX2, 2), (RX3, TX3, 7), (RX4, TX4, 3), (RX5, TX5, 6), (RX6, TX6, 2), (RX7, TX7, 2), (RX8, TX8, 2), (RX9, TX9, 7), (RX10, TX10, 4), (RX11, TX11, 14), (RX12, TX12, 59)]
end
section
/-! AN INTERPRETER over small numbers for addresses, and what ties it to the machine. -/
abbrev ai_C : Type := Nat × Nat × (Nat → Value)
abbrev ai_H : Type := List ai_C
abbrev ai_L : Type := List (Nat × Value)
abbrev ai_I : Type := Instr × Nat × Nat × Nat × Value
/-- a method: its name, its code, its variables, what it returns, its handlers (from, to, at, the entry, the exception's number) -/
abbrev ai_M : Type := MethodName × ByteArray × Nat × Option FieldType × List (Nat × Nat × Nat × Nat × Nat)
/-- a program: instructions, methods, the types of a class's fields, the classes of arrays' elements, how many cells were there before -/
abbrev ai_P : Type := (Nat → Nat → Option ai_I) × (Nat → ai_M) × (Nat → Nat → FieldType) × (Nat → String) × Nat × (Nat → Nat → Bool)
abbrev ai_P.tab (P : ai_P) : Nat → Nat → Option ai_I := P.1
abbrev ai_P.mth (P : ai_P) : Nat → ai_M := P.2.1
abbrev ai_P.ty (P : ai_P) : Nat → Nat → FieldType := P.2.2.1
abbrev ai_P.rc (P : ai_P) : Nat → String := P.2.2.2.1
abbrev ai_P.p0 (P : ai_P) : Nat := P.2.2.2.2.1
/-- which class may be stored into which arrays of references -/
abbrev ai_P.ac (P : ai_P) : Nat → Nat → Bool := P.2.2.2.2.2
abbrev ai_I.ins (q : ai_I) : Instr := q.1
abbrev ai_I.len (q : ai_I) : Nat := q.2.1
abbrev ai_I.r1 (q : ai_I) : Nat := q.2.2.1
abbrev ai_I.r2 (q : ai_I) : Nat := q.2.2.2.1
abbrev ai_I.rv (q : ai_I) : Value := q.2.2.2.2
abbrev ai_M.y (q : ai_M) : MethodName := q.1
abbrev ai_M.code (q : ai_M) : ByteArray := q.2.1
abbrev ai_M.maxL (q : ai_M) : Nat := q.2.2.1
abbrev ai_M.ret (q : ai_M) : Option FieldType := q.2.2.2.1
abbrev ai_M.hs (q : ai_M) : List (Nat × Nat × Nat × Nat × Nat) := q.2.2.2.2
/-- what a step does to the heap: nothing, one cell's contents anew, a new cell -/
abbrev ai_E : Type := Unit ⊕ (Nat × (Nat → Value)) ⊕ ai_C
abbrev ai_O : Type := (Nat × ai_L × List Value × ai_E) ⊕ (Nat × List Value × List Value) ⊕ (Option Value) ⊕ Nat
def ai_st1 (i : Nat) (v : Value) (lv : ai_L) : ai_L := (i, v) :: lv.filter (fun q => !(q.1 == i) && !(q.1 + 1 == i && q.2.category == 2))
def ai_st2 (i : Nat) (v : Value) (lv : ai_L) : ai_L := (i, v) :: lv.filter (fun q => !(q.1 == i) && (!(q.1 == i + 1) && !(q.1 + 1 == i && q.2.category == 2)))
def ai_app (h : ai_H) (x : ai_E) : ai_H := match x with
  | .inl _ => h
  | .inr (.inl (k, f)) => match h[k]? with
    | some c => h.set k (c.1, c.2.1, f)
    | none => h
  | .inr (.inr c) => h ++ [c]
def ai_nx (pc : Nat) (lv : ai_L) (st : List Value) : Option ai_O := some (.inl (pc, lv, st, .inl ()))
def ai_nxE (pc : Nat) (lv : ai_L) (st : List Value) (x : ai_E) : Option ai_O := some (.inl (pc, lv, st, x))
/-- the number of an array's kind, and its type -/
def ai_ty (rc : Nat → String) (t : Nat) : FieldType := if t = 100 then .byte else if t = 101 then .boolean else if t = 102 then .int else if t = 103 then .long else if t = 104 then .char else .object (rc t)
def ai_idx (j : Int32) (n : Nat) : Bool := decide (0 ≤ j.toInt) && decide (j.toInt < n)
def ai_bin (f : Int32 → Int32 → Int32) (pc : Nat) (lv : ai_L) (st : List Value) : Option ai_O := match st with
  | .int y :: .int x :: r => ai_nx (pc + 1) lv (.int (f x y) :: r)
  | _ => none
def ai_binL (f : Int64 → Int64 → Int64) (pc : Nat) (lv : ai_L) (st : List Value) : Option ai_O := match st with
  | .long y :: .long x :: r => ai_nx (pc + 1) lv (.long (f x y) :: r)
  | _ => none
def ai_binS (f : Int64 → Int32 → Int64) (pc : Nat) (lv : ai_L) (st : List Value) : Option ai_O := match st with
  | .int y :: .long x :: r => ai_nx (pc + 1) lv (.long (f x y) :: r)
  | _ => none
def ai_div (f : Int32 → Int32 → Int32) (pc : Nat) (lv : ai_L) (st : List Value) : Option ai_O := match st with
  | .int y :: .int x :: r => if y = 0 then none else ai_nx (pc + 1) lv (.int (f x y) :: r)
  | _ => none
def ai_un (f : Int32 → Int32) (pc : Nat) (lv : ai_L) (st : List Value) : Option ai_O := match st with
  | .int x :: r => ai_nx (pc + 1) lv (.int (f x) :: r)
  | _ => none
def ai_if (c : Int32 → Bool) (tgt pc : Nat) (lv : ai_L) (st : List Value) : Option ai_O := match st with
  | .int x :: r => if c x then ai_nx tgt lv r else ai_nx (pc + 3) lv r
  | _ => none
def ai_cmp (c : Int32 → Int32 → Bool) (tgt pc : Nat) (lv : ai_L) (st : List Value) : Option ai_O := match st with
  | .int y :: .int x :: r => if c x y then ai_nx tgt lv r else ai_nx (pc + 3) lv r
  | _ => none
def ai_ld (i : Nat) (ok : Value → Bool) (len pc : Nat) (lv : ai_L) (st : List Value) : Option ai_O := match lv.lookup i with
  | some v => if ok v then ai_nx (pc + len) lv (v :: st) else none
  | none => none
def ai_sto (i : Nat) (ok : Value → Bool) (len nL pc : Nat) (lv : ai_L) (st : List Value) : Option ai_O := match st with
  | v :: r => if ok v && decide (i < nL) then ai_nx (pc + len) (ai_st1 i v lv) r else none
  | _ => none
def ai_stoL (i : Nat) (len nL pc : Nat) (lv : ai_L) (st : List Value) : Option ai_O := match st with
  | .long v :: r => if i + 1 < nL then ai_nx (pc + len) (ai_st2 i (.long v) lv) r else none
  | _ => none
def ai_isI (v : Value) : Bool := match v with | .int _ => true | _ => false
def ai_isJ (v : Value) : Bool := match v with | .long _ => true | _ => false
def ai_isA (v : Value) : Bool := match v with | .ref _ => true | .null => true | _ => false
/-- an array's load and store -/
def ai_ald (ok : Nat → Bool) (pc : Nat) (lv : ai_L) (st : List Value) (h : ai_H) : Option ai_O := match st with
  | .int j :: .ref a :: r => match h[a]? with
    | some (t, n, f) => if ok t && ai_idx j n then ai_nx (pc + 1) lv (f j.toNatClampNeg :: r) else none
    | none => none
  | _ => none
def ai_ast (ok : Nat → Bool) (nar : Nat → Value → Option Value) (P0 pc : Nat) (lv : ai_L) (st : List Value) (h : ai_H) : Option ai_O := match st with
  | v :: .int j :: .ref a :: r => match h[a]? with
    | some (t, n, f) => match nar t v with
      | some w => if ok t && ai_idx j n && decide (P0 ≤ a) then ai_nxE (pc + 1) lv r (.inr (.inl (a, va_up f j.toNatClampNeg w))) else none
      | none => none
    | none => none
  | _ => none
def ai_narI (t : Nat) (v : Value) : Option Value := match v with | .int x => some (.int x) | _ => none
def ai_narB (t : Nat) (v : Value) : Option Value := match v with | .int x => if t = 100 then some (.int (vp_nar .byte x)) else some (.int (vp_nar .boolean x)) | _ => none
def ai_narJ (t : Nat) (v : Value) : Option Value := match v with | .long x => some (.long x) | _ => none
def ai_default (ty : FieldType) : Value := defaultValue ty
end
section
/-! rows that take a step of the interpreter to a step of the machine -/
def ai_v (ad : Nat → Nat) (v : Value) : Value := match v with
  | .ref k => .ref (ad k)
  | v => v
def ai_lc (ad : Nat → Nat) (lv : ai_L) : List (Nat × Value) := lv.map (fun q => (q.1, ai_v ad q.2))
def ai_ok (n : Nat) (v : Value) : Prop := ∀ k, v = .ref k → k < n
theorem ai_ok_i (n : Nat) (x : Int32) : ai_ok n (.int x) := fun _ h => by cases h
theorem ai_ok_l (n : Nat) (x : Int64) : ai_ok n (.long x) := fun _ h => by cases h
theorem ai_ok_n (n : Nat) : ai_ok n .null := fun _ h => by cases h
theorem ai_cat (ad : Nat → Nat) (v : Value) : (ai_v ad v).category = v.category := by cases v <;> rfl
theorem ai_lc_filter (ad : Nat → Nat) (lv : ai_L) (g : Nat → Nat → Bool) : ai_lc ad (lv.filter (fun q => g q.1 q.2.category)) = (ai_lc ad lv).filter (fun q => g q.1 q.2.category) := by
  induction lv with
  | nil => rfl
  | cons a l ih =>
    by_cases hg : g a.1 a.2.category = true
    · have h1 : g a.1 (ai_v ad a.2).category = true := by rw [ai_cat]; exact hg
      simp only [ai_lc, List.map_cons, List.filter_cons, hg, h1, if_true] at ih ⊢
      rw [ih]
    · have h1 : ¬ g a.1 (ai_v ad a.2).category = true := by rw [ai_cat]; exact hg
      simp only [ai_lc, List.map_cons, List.filter_cons, hg, h1, if_false] at ih ⊢
      exact ih
theorem ai_lc_st1 (ad : Nat → Nat) (i : Nat) (v : Value) (lv : ai_L) : ai_lc ad (ai_st1 i v lv) = (i, ai_v ad v) :: (ai_lc ad lv).filter (fun q => !(q.1 == i) && !(q.1 + 1 == i && q.2.category == 2)) := by
  rw [← ai_lc_filter ad lv (fun a b => !(a == i) && !(a + 1 == i && b == 2))]
  rfl
theorem ai_lc_st2 (ad : Nat → Nat) (i : Nat) (v : Value) (lv : ai_L) : ai_lc ad (ai_st2 i v lv) = (i, ai_v ad v) :: (ai_lc ad lv).filter (fun q => !(q.1 == i) && (!(q.1 == i + 1) && !(q.1 + 1 == i && q.2.category == 2))) := by
  rw [← ai_lc_filter ad lv (fun a b => !(a == i) && (!(a == i + 1) && !(a + 1 == i && b == 2)))]
  rfl
theorem ai_mem_lookup {i : Nat} {v : Value} : ∀ {lv : ai_L}, lv.lookup i = some v → (i, v) ∈ lv
  | [], h => by cases h
  | (a, b) :: l, h => by
    rw [List.lookup_cons] at h
    by_cases he : i == a
    · rw [he] at h
      have : i = a := by simpa using he
      cases h
      subst this
      exact List.mem_cons_self
    · rw [Bool.not_eq_true] at he
      rw [he] at h
      exact List.mem_cons_of_mem _ (ai_mem_lookup h)
/-- the frame: variables and operands -/
def ai_F (nL : Nat) (ad : Nat → Nat) (n : Nat) (lv : ai_L) (st : List Value) (ls : Array Slot) : Prop :=
  lv_has ls nL (ai_lc ad lv) ∧ (∀ q ∈ lv, ai_ok n q.2) ∧ ∀ v ∈ st, ai_ok n v
theorem ai_F.st {nL : Nat} {ad : Nat → Nat} {n : Nat} {lv : ai_L} {st st' : List Value} {ls : Array Slot} (h : ai_F nL ad n lv st ls) (h' : ∀ v ∈ st', ai_ok n v) : ai_F nL ad n lv st' ls := ⟨h.1, h.2.1, h'⟩
theorem ai_F.at {nL : Nat} {ad : Nat → Nat} {n : Nat} {lv : ai_L} {st : List Value} {ls : Array Slot} (h : ai_F nL ad n lv st ls) {i : Nat} {v : Value} (hv : lv.lookup i = some v) : ls[i]? = some (.val (ai_v ad v)) ∧ ai_ok n v := by
  have hm := ai_mem_lookup hv
  refine ⟨h.1.2.2 (i, ai_v ad v) ?_, h.2.1 _ hm⟩
  exact List.mem_map_of_mem (f := fun q : Nat × Value => (q.1, ai_v ad q.2)) hm
theorem ai_cons {n : Nat} {v : Value} {r : List Value} (hv : ai_ok n v) (hr : ∀ w ∈ r, ai_ok n w) : ∀ w ∈ v :: r, ai_ok n w := fun w hw => (List.mem_cons.mp hw).elim (fun e => e ▸ hv) (hr w)
theorem ai_tl {n : Nat} {v : Value} {r : List Value} (h : ∀ w ∈ v :: r, ai_ok n w) : ∀ w ∈ r, ai_ok n w := fun w hw => h w (List.mem_cons_of_mem _ hw)
theorem ai_hd {n : Nat} {v : Value} {r : List Value} (h : ∀ w ∈ v :: r, ai_ok n w) : ai_ok n v := h v List.mem_cons_self
theorem ai_st1_ok {n i : Nat} {v : Value} {lv : ai_L} (hl : ∀ q ∈ lv, ai_ok n q.2) (hv : ai_ok n v) : ∀ q ∈ ai_st1 i v lv, ai_ok n q.2 := fun q hq => (List.mem_cons.mp hq).elim (fun e => e ▸ hv) (fun h => hl q (List.mem_filter.mp h).1)
theorem ai_st2_ok {n i : Nat} {v : Value} {lv : ai_L} (hl : ∀ q ∈ lv, ai_ok n q.2) (hv : ai_ok n v) : ∀ q ∈ ai_st2 i v lv, ai_ok n q.2 := fun q hq => (List.mem_cons.mp hq).elim (fun e => e ▸ hv) (fun h => hl q (List.mem_filter.mp h).1)
section AIR
variable {p : Program} {l : Launch} {e : Env} {R : Room} {s : State} {m : MethodId} {args : Array Value} {below : List Frame} {meth : Method} {c : Code} {H : Heap} {locs : List Loc} {cells slots : Nat} {Q : State → Prop}
variable {nL n pc pc' : Nat} {ad : Nat → Nat} {lv lv' : ai_L} {st st' : List Value} {ls : Array Slot} {x : ai_E} {cc : ByteArray}
theorem ar_bin {f : Int32 → Int32 → Int32} (row : ∀ (a b : Int32) (r : List Value), W p l e R s m args below meth c H locs cells slots Q (F0 m (pc + 1) ls (.int (f a b) :: r)) → W p l e R s m args below meth c H locs cells slots Q (F0 m pc ls (.int b :: .int a :: r)))
    (h : ai_bin f pc lv st = some (.inl (pc', lv', st', x))) (hF : ai_F nL ad n lv st ls) (kk : x = .inl () → ai_F nL ad n lv' st' ls → W p l e R s m args below meth c H locs cells slots Q (F0 m pc' ls (st'.map (ai_v ad)))) : W p l e R s m args below meth c H locs cells slots Q (F0 m pc ls (st.map (ai_v ad))) := by
  unfold ai_bin at h
  split at h
  · cases h
    exact row _ _ _ (kk rfl (hF.st (ai_cons (ai_ok_i _ _) (ai_tl (ai_tl hF.2.2)))))
  · cases h
theorem ar_binL {f : Int64 → Int64 → Int64} (row : ∀ (a b : Int64) (r : List Value), W p l e R s m args below meth c H locs cells slots Q (F0 m (pc + 1) ls (.long (f a b) :: r)) → W p l e R s m args below meth c H locs cells slots Q (F0 m pc ls (.long b :: .long a :: r)))
    (h : ai_binL f pc lv st = some (.inl (pc', lv', st', x))) (hF : ai_F nL ad n lv st ls) (kk : x = .inl () → ai_F nL ad n lv' st' ls → W p l e R s m args below meth c H locs cells slots Q (F0 m pc' ls (st'.map (ai_v ad)))) : W p l e R s m args below meth c H locs cells slots Q (F0 m pc ls (st.map (ai_v ad))) := by
  unfold ai_binL at h
  split at h
  · cases h
    exact row _ _ _ (kk rfl (hF.st (ai_cons (ai_ok_l _ _) (ai_tl (ai_tl hF.2.2)))))
  · cases h
theorem ar_binS {f : Int64 → Int32 → Int64} (row : ∀ (a : Int64) (b : Int32) (r : List Value), W p l e R s m args below meth c H locs cells slots Q (F0 m (pc + 1) ls (.long (f a b) :: r)) → W p l e R s m args below meth c H locs cells slots Q (F0 m pc ls (.int b :: .long a :: r)))
    (h : ai_binS f pc lv st = some (.inl (pc', lv', st', x))) (hF : ai_F nL ad n lv st ls) (kk : x = .inl () → ai_F nL ad n lv' st' ls → W p l e R s m args below meth c H locs cells slots Q (F0 m pc' ls (st'.map (ai_v ad)))) : W p l e R s m args below meth c H locs cells slots Q (F0 m pc ls (st.map (ai_v ad))) := by
  unfold ai_binS at h
  split at h
  · cases h
    exact row _ _ _ (kk rfl (hF.st (ai_cons (ai_ok_l _ _) (ai_tl (ai_tl hF.2.2)))))
  · cases h
theorem ar_div {f : Int32 → Int32 → Int32} (row : ∀ (a b : Int32) (r : List Value), ¬ b = 0 → W p l e R s m args below meth c H locs cells slots Q (F0 m (pc + 1) ls (.int (f a b) :: r)) → W p l e R s m args below meth c H locs cells slots Q (F0 m pc ls (.int b :: .int a :: r)))
    (h : ai_div f pc lv st = some (.inl (pc', lv', st', x))) (hF : ai_F nL ad n lv st ls) (kk : x = .inl () → ai_F nL ad n lv' st' ls → W p l e R s m args below meth c H locs cells slots Q (F0 m pc' ls (st'.map (ai_v ad)))) : W p l e R s m args below meth c H locs cells slots Q (F0 m pc ls (st.map (ai_v ad))) := by
  unfold ai_div at h
  split at h
  · split at h
    · cases h
    · rename_i hne
      cases h
      exact row _ _ _ hne (kk rfl (hF.st (ai_cons (ai_ok_i _ _) (ai_tl (ai_tl hF.2.2)))))
  · cases h
theorem ar_un {f : Int32 → Int32} (row : ∀ (a : Int32) (r : List Value), W p l e R s m args below meth c H locs cells slots Q (F0 m (pc + 1) ls (.int (f a) :: r)) → W p l e R s m args below meth c H locs cells slots Q (F0 m pc ls (.int a :: r)))
    (h : ai_un f pc lv st = some (.inl (pc', lv', st', x))) (hF : ai_F nL ad n lv st ls) (kk : x = .inl () → ai_F nL ad n lv' st' ls → W p l e R s m args below meth c H locs cells slots Q (F0 m pc' ls (st'.map (ai_v ad)))) : W p l e R s m args below meth c H locs cells slots Q (F0 m pc ls (st.map (ai_v ad))) := by
  unfold ai_un at h
  split at h
  · cases h
    exact row _ _ (kk rfl (hF.st (ai_cons (ai_ok_i _ _) (ai_tl hF.2.2))))
  · cases h
theorem ar_if {b : Int32 → Bool} {tgt : Nat} (row : ∀ (a : Int32) (r : List Value), (b a = true → W p l e R s m args below meth c H locs cells slots Q (F0 m tgt ls r)) → (¬ b a = true → W p l e R s m args below meth c H locs cells slots Q (F0 m (pc + 3) ls r)) → W p l e R s m args below meth c H locs cells slots Q (F0 m pc ls (.int a :: r)))
    (h : ai_if b tgt pc lv st = some (.inl (pc', lv', st', x))) (hF : ai_F nL ad n lv st ls) (kk : x = .inl () → ai_F nL ad n lv' st' ls → W p l e R s m args below meth c H locs cells slots Q (F0 m pc' ls (st'.map (ai_v ad)))) : W p l e R s m args below meth c H locs cells slots Q (F0 m pc ls (st.map (ai_v ad))) := by
  unfold ai_if at h
  split at h
  · split at h
    · rename_i hc
      cases h
      exact row _ _ (fun _ => kk rfl (hF.st (ai_tl hF.2.2))) (fun hn => absurd hc hn)
    · rename_i hc
      cases h
      exact row _ _ (fun hn => absurd hn hc) (fun _ => kk rfl (hF.st (ai_tl hF.2.2)))
  · cases h
theorem ar_cmp {b : Int32 → Int32 → Bool} {tgt : Nat} (row : ∀ (a y : Int32) (r : List Value), (b a y = true → W p l e R s m args below meth c H locs cells slots Q (F0 m tgt ls r)) → (¬ b a y = true → W p l e R s m args below meth c H locs cells slots Q (F0 m (pc + 3) ls r)) → W p l e R s m args below meth c H locs cells slots Q (F0 m pc ls (.int y :: .int a :: r)))
    (h : ai_cmp b tgt pc lv st = some (.inl (pc', lv', st', x))) (hF : ai_F nL ad n lv st ls) (kk : x = .inl () → ai_F nL ad n lv' st' ls → W p l e R s m args below meth c H locs cells slots Q (F0 m pc' ls (st'.map (ai_v ad)))) : W p l e R s m args below meth c H locs cells slots Q (F0 m pc ls (st.map (ai_v ad))) := by
  unfold ai_cmp at h
  split at h
  · split at h
    · rename_i hc
      cases h
      exact row _ _ _ (fun _ => kk rfl (hF.st (ai_tl (ai_tl hF.2.2)))) (fun hn => absurd hc hn)
    · rename_i hc
      cases h
      exact row _ _ _ (fun hn => absurd hn hc) (fun _ => kk rfl (hF.st (ai_tl (ai_tl hF.2.2))))
  · cases h
theorem ar_ld {i len : Nat} {ok : Value → Bool} (row : ∀ (v : Value), ok v = true → ls[i]? = some (.val (ai_v ad v)) → W p l e R s m args below meth c H locs cells slots Q (F0 m (pc + len) ls (ai_v ad v :: st.map (ai_v ad))) → W p l e R s m args below meth c H locs cells slots Q (F0 m pc ls (st.map (ai_v ad))))
    (h : ai_ld i ok len pc lv st = some (.inl (pc', lv', st', x))) (hF : ai_F nL ad n lv st ls) (kk : x = .inl () → ai_F nL ad n lv' st' ls → W p l e R s m args below meth c H locs cells slots Q (F0 m pc' ls (st'.map (ai_v ad)))) : W p l e R s m args below meth c H locs cells slots Q (F0 m pc ls (st.map (ai_v ad))) := by
  unfold ai_ld at h
  split at h
  · rename_i v hv
    split at h
    · rename_i hc
      cases h
      obtain ⟨h1, h2⟩ := hF.at hv
      exact row _ hc h1 (kk rfl (hF.st (ai_cons h2 hF.2.2)))
    · cases h
  · cases h
theorem ar_sto {i len : Nat} {ok : Value → Bool} (hok : ∀ v, ok v = true → v.category = 1) (row : ∀ (v : Value) (r : List Value) (lw : List (Nat × Value)), ok v = true → i < nL → lv_has ls nL lw → (∀ ls' : Array Slot, lv_has ls' nL ((i, ai_v ad v) :: lw.filter (fun q => !(q.1 == i) && !(q.1 + 1 == i && q.2.category == 2))) → W p l e R s m args below meth c H locs cells slots Q (F0 m (pc + len) ls' r)) → W p l e R s m args below meth c H locs cells slots Q (F0 m pc ls (ai_v ad v :: r)))
    (h : ai_sto i ok len nL pc lv st = some (.inl (pc', lv', st', x))) (hF : ai_F nL ad n lv st ls) (kk : ∀ ls', x = .inl () → ai_F nL ad n lv' st' ls' → W p l e R s m args below meth c H locs cells slots Q (F0 m pc' ls' (st'.map (ai_v ad)))) : W p l e R s m args below meth c H locs cells slots Q (F0 m pc ls (st.map (ai_v ad))) := by
  unfold ai_sto at h
  split at h
  · rename_i v r
    split at h
    · rename_i hc
      cases h
      rw [Bool.and_eq_true, decide_eq_true_eq] at hc
      refine row _ _ _ hc.1 hc.2 hF.1 (fun ls' hl => kk ls' rfl ⟨?_, ai_st1_ok hF.2.1 (ai_hd hF.2.2), ai_tl hF.2.2⟩)
      rw [ai_lc_st1]; exact hl
    · cases h
  · cases h
theorem ar_stoL {i len : Nat} (row : ∀ (v : Int64) (r : List Value) (lw : List (Nat × Value)), i + 1 < nL → lv_has ls nL lw → (∀ ls' : Array Slot, lv_has ls' nL ((i, .long v) :: lw.filter (fun q => !(q.1 == i) && (!(q.1 == i + 1) && !(q.1 + 1 == i && q.2.category == 2)))) → W p l e R s m args below meth c H locs cells slots Q (F0 m (pc + len) ls' r)) → W p l e R s m args below meth c H locs cells slots Q (F0 m pc ls (.long v :: r)))
    (h : ai_stoL i len nL pc lv st = some (.inl (pc', lv', st', x))) (hF : ai_F nL ad n lv st ls) (kk : ∀ ls', x = .inl () → ai_F nL ad n lv' st' ls' → W p l e R s m args below meth c H locs cells slots Q (F0 m pc' ls' (st'.map (ai_v ad)))) : W p l e R s m args below meth c H locs cells slots Q (F0 m pc ls (st.map (ai_v ad))) := by
  unfold ai_stoL at h
  split at h
  · rename_i v r
    split at h
    · rename_i hc
      cases h
      refine row _ _ _ hc hF.1 (fun ls' hl => kk ls' rfl ⟨?_, ai_st2_ok hF.2.1 (ai_hd hF.2.2), ai_tl hF.2.2⟩)
      rw [ai_lc_st2]; exact hl
    · cases h
  · cases h
end AIR
end
section
/-! the world: what the machine's heap holds where the interpreter's heap holds h -/
/-- an array at a: n places at least, and its length is n; z: made in this run -/
def ai_ar (U : State) (H : Heap) (z : Prop) (a : Nat) (ty : FieldType) (n : Nat) (F : Nat → Value) : Prop :=
  ∃ cell : Cell, H[a]? = some cell ∧ U.isArrayOf cell ty ∧ cell.vm ≠ .unknown ∧ n ≤ cell.slots.size ∧ cell.slots.size.toInt32 = Int32.ofNat n ∧ (∀ j : Nat, j < n → cell.slots[j]? = some (F j)) ∧ (z → va_RA U cell.cls ty ∧ cell.vm = .none ∧ cell.slots.size = n)
def ai_at (cl : List vw_C) (D : va_G) (rc : Nat → String) (ad : Nat → Nat) (U : State) (H : Heap) (z : Prop) (a : Nat) (c : ai_C) : Prop :=
  (c.1 < 100 → ∃ r : vw_C, cl[c.1]? = some r ∧ c.2.1 = r.2.2 ∧ t_OB a (D.1 c.1) r.2.2 (D.2 c.1) H (fun j => ai_v ad (c.2.2 j))) ∧
  (100 ≤ c.1 → c.1 < 200 → ai_ar U H z a (ai_ty rc c.1) c.2.1 (fun j => ai_v ad (c.2.2 j)))
def ai_w (cl : List vw_C) (D : va_G) (rc : Nat → String) (P0 n0 : Nat) (ad : Nat → Nat) (h : ai_H) (U : State) (H : Heap) : Prop :=
  (∀ (k : Nat) (c : ai_C), h[k]? = some c → ai_at cl D rc ad U H (P0 ≤ k) (ad k) c) ∧ (∀ (k : Nat) (c : ai_C), h[k]? = some c → ∀ j, j < c.2.1 → ai_ok h.length (c.2.2 j)) ∧
  (∀ (i j : Nat) (a b : ai_C), h[i]? = some a → h[j]? = some b → P0 ≤ i → a.1 < 200 → b.1 < 200 → ad i = ad j → i = j) ∧ ∀ (i : Nat) (a : ai_C), h[i]? = some a → P0 ≤ i → a.1 < 200 → n0 ≤ ad i
theorem ai_ar.kept {U : State} {H H1 : Heap} {z : Prop} {a : Nat} {ty : FieldType} {n : Nat} {F : Nat → Value} (h : ai_ar U H z a ty n F) (hq : H1[a]? = H[a]?) : ai_ar U H1 z a ty n F := by
  obtain ⟨cell, h1, h2⟩ := h
  exact ⟨cell, hq.trans h1, h2⟩
theorem ai_ar.moved {u U : State} {H : Heap} {z : Prop} {a : Nat} {ty : FieldType} {n : Nat} {F : Nat → Value} (hvm : u.vm.Alike U.vm) (h : ai_ar u H z a ty n F) : ai_ar U H z a ty n F := by
  obtain ⟨cell, h1, h2, h3, h4, h5, h6, h7⟩ := h
  exact ⟨cell, h1, State.isArrayOf_alike hvm h2, h3, h4, h5, h6, fun hz => ⟨(h7 hz).1.moved hvm, (h7 hz).2⟩⟩
theorem ai_at.kept {cl : List vw_C} {D : va_G} {rc : Nat → String} {ad : Nat → Nat} {U : State} {H H1 : Heap} {z : Prop} {a : Nat} {c : ai_C} (h : ai_at cl D rc ad U H z a c) (hq : c.1 < 200 → H1[a]? = H[a]?) : ai_at cl D rc ad U H1 z a c := by
  refine ⟨fun h0 => ?_, fun h0 h1 => (h.2 h0 h1).kept (hq h1)⟩
  obtain ⟨r, h1, h2, h3⟩ := h.1 h0
  exact ⟨r, h1, h2, h3.kept (hq (by omega))⟩
theorem ai_at.moved {cl : List vw_C} {D : va_G} {rc : Nat → String} {ad : Nat → Nat} {u U : State} {H : Heap} {z : Prop} {a : Nat} {c : ai_C} (hvm : u.vm.Alike U.vm) (h : ai_at cl D rc ad u H z a c) : ai_at cl D rc ad U H z a c :=
  ⟨h.1, fun h0 h1 => (h.2 h0 h1).moved hvm⟩
theorem ai_at.lt {cl : List vw_C} {D : va_G} {rc : Nat → String} {ad : Nat → Nat} {U : State} {H : Heap} {z : Prop} {a : Nat} {c : ai_C} (h : ai_at cl D rc ad U H z a c) (h2 : c.1 < 200) : a < H.size := by
  by_cases h0 : c.1 < 100
  · obtain ⟨r, -, -, cell, h3, -⟩ := h.1 h0
    exact (Array.getElem?_eq_some_iff.mp h3).1
  · obtain ⟨cell, h3, -⟩ := h.2 (by omega) h2
    exact (Array.getElem?_eq_some_iff.mp h3).1
theorem ai_v_ext {ad ad' : Nat → Nat} {n : Nat} (he : ∀ k, k < n → ad' k = ad k) {v : Value} (h : ai_ok n v) : ai_v ad' v = ai_v ad v := by
  cases v with
  | ref k => exact congrArg Value.ref (he k (h k rfl))
  | _ => rfl
theorem ai_at.ext {cl : List vw_C} {D : va_G} {rc : Nat → String} {ad ad' : Nat → Nat} {U : State} {H : Heap} {z : Prop} {a n : Nat} {c : ai_C} (he : ∀ k, k < n → ad' k = ad k) (hok : ∀ j, j < c.2.1 → ai_ok n (c.2.2 j)) (h : ai_at cl D rc ad U H z a c) : ai_at cl D rc ad' U H z a c := by
  refine ⟨fun h0 => ?_, fun h0 h1 => ?_⟩
  · obtain ⟨r, h1, h2, h3⟩ := h.1 h0
    exact ⟨r, h1, h2, h3.to (fun k hk => (ai_v_ext he (hok k (by omega))).symm)⟩
  · obtain ⟨cell, h1, h2, h3, h4, h5, h6, h7⟩ := h.2 h0 h1
    exact ⟨cell, h1, h2, h3, h4, h5, fun j hj => (h6 j hj).trans (congrArg some (ai_v_ext he (hok j hj)).symm), h7⟩
theorem ai_ok.mono {n n' : Nat} {v : Value} (h : ai_ok n v) (hn : n ≤ n') : ai_ok n' v := fun k hk => Nat.lt_of_lt_of_le (h k hk) hn
theorem ai_w.moved {cl : List vw_C} {D : va_G} {rc : Nat → String} {P0 n0 : Nat} {ad : Nat → Nat} {h : ai_H} {u U : State} {H : Heap} (hvm : u.vm.Alike U.vm) (w : ai_w cl D rc P0 n0 ad h u H) : ai_w cl D rc P0 n0 ad h U H :=
  ⟨fun k c hk => (w.1 k c hk).moved hvm, w.2⟩
theorem ai_w.kept {cl : List vw_C} {D : va_G} {rc : Nat → String} {P0 n0 : Nat} {ad : Nat → Nat} {h : ai_H} {U : State} {H H1 : Heap} (w : ai_w cl D rc P0 n0 ad h U H) (hq : ∀ q : Nat, q < H.size → H1[q]? = H[q]?) : ai_w cl D rc P0 n0 ad h U H1 :=
  ⟨fun k c hk => (w.1 k c hk).kept (fun hc => hq _ ((w.1 k c hk).lt hc)), w.2⟩
/-- one cell's contents anew -/
theorem ai_w.set {cl : List vw_C} {D : va_G} {rc : Nat → String} {P0 n0 : Nat} {ad : Nat → Nat} {h : ai_H} {U : State} {H H1 : Heap} (w : ai_w cl D rc P0 n0 ad h U H) {k t n : Nat} {f f' : Nat → Value} (hk : h[k]? = some (t, n, f)) (hP : P0 ≤ k) (ht : t < 200)
    (hat : ai_at cl D rc ad U H1 (P0 ≤ k) (ad k) (t, n, f')) (hok : ∀ j, j < n → ai_ok h.length (f' j)) (hq : ∀ q : Nat, q ≠ ad k → H1[q]? = H[q]?) : ai_w cl D rc P0 n0 ad (h.set k (t, n, f')) U H1 := by
  have hl := (List.getElem?_eq_some_iff.mp hk).1
  have key : ∀ (i : Nat) (c : ai_C), (h.set k (t, n, f'))[i]? = some c → (i = k ∧ c = (t, n, f')) ∨ (i ≠ k ∧ h[i]? = some c) := by
    intro i c hi
    by_cases hik : i = k
    · subst hik
      rw [List.getElem?_set_self hl] at hi
      cases hi
      exact Or.inl ⟨rfl, rfl⟩
    · rw [List.getElem?_set_ne (Ne.symm hik)] at hi
      exact Or.inr ⟨hik, hi⟩
  have old : ∀ (i : Nat) (c : ai_C), (h.set k (t, n, f'))[i]? = some c → ∃ c0 : ai_C, h[i]? = some c0 ∧ c0.1 = c.1 := by
    intro i c hi
    rcases key i c hi with ⟨rfl, rfl⟩ | ⟨-, h2⟩
    · exact ⟨_, hk, rfl⟩
    · exact ⟨c, h2, rfl⟩
  refine ⟨fun i c hi => ?_, fun i c hi j hj => ?_, fun i j a b hi hj h1 h2 h3 h4 => ?_, fun i a hi h1 h2 => ?_⟩
  · rcases key i c hi with ⟨rfl, rfl⟩ | ⟨hne, h2⟩
    · exact hat
    · exact (w.1 i c h2).kept (fun hc => hq _ (fun he => hne (w.2.2.1 k i _ _ hk h2 hP ht hc he.symm).symm))
  · rw [List.length_set]
    rcases key i c hi with ⟨rfl, rfl⟩ | ⟨hne, h2⟩
    · exact hok j hj
    · exact w.2.1 i c h2 j hj
  · obtain ⟨a0, p1, p2⟩ := old i a hi
    obtain ⟨b0, q1, q2⟩ := old j b hj
    exact w.2.2.1 i j a0 b0 p1 q1 h1 (by omega) (by omega) h4
  · obtain ⟨a0, p1, p2⟩ := old i a hi
    exact w.2.2.2 i a0 p1 h1 (by omega)
/-- a new cell: the next number stands for its address -/
theorem ai_w.push {cl : List vw_C} {D : va_G} {rc : Nat → String} {P0 n0 : Nat} {ad : Nat → Nat} {h : ai_H} {U : State} {H H1 : Heap} (w : ai_w cl D rc P0 n0 ad h U H) {c : ai_C} {q : Nat} (hz : n0 ≤ q)
    (hat : ai_at cl D rc ad U H1 True q c) (hnew : H.size ≤ q) (hok : ∀ j, j < c.2.1 → ai_ok h.length (c.2.2 j)) (hq : ∀ q : Nat, q < H.size → H1[q]? = H[q]?) : ai_w cl D rc P0 n0 (va_up ad h.length q) (h ++ [c]) U H1 := by
  have he : ∀ k, k < h.length → va_up ad h.length q k = ad k := fun k hk => by simp [va_up, Nat.ne_of_lt hk]
  have hs : va_up ad h.length q h.length = q := by simp [va_up]
  have key : ∀ (i : Nat) (b : ai_C), (h ++ [c])[i]? = some b → (i < h.length ∧ h[i]? = some b) ∨ (i = h.length ∧ b = c) := by
    intro i b hi
    by_cases hl : i < h.length
    · rw [List.getElem?_append_left hl] at hi
      exact Or.inl ⟨hl, hi⟩
    · rw [List.getElem?_append_right (by omega)] at hi
      have hz : i - h.length < 1 := (List.getElem?_eq_some_iff.mp hi).1
      have hi0 : i = h.length := by omega
      subst hi0
      rw [Nat.sub_self] at hi
      cases hi
      exact Or.inr ⟨rfl, rfl⟩
  have hlen : (h ++ [c]).length = h.length + 1 := by simp
  refine ⟨fun i b hi => ?_, fun i b hi j hj => ?_, fun i j a b hi hj h1 h2 h3 h4 => ?_, fun i a hi h1 h2 => ?_⟩
  · rcases key i b hi with ⟨hl, h2⟩ | ⟨rfl, rfl⟩
    · rw [he i hl]
      exact ((w.1 i b h2).kept (fun hc => hq _ ((w.1 i b h2).lt hc))).ext he (fun j hj => w.2.1 i b h2 j hj)
    · rw [hs]
      have h9 := hat.ext he hok
      refine ⟨h9.1, fun a1 a2 => ?_⟩
      obtain ⟨cell, b1, b2, b3, b4, b5, b6, b7⟩ := h9.2 a1 a2
      exact ⟨cell, b1, b2, b3, b4, b5, b6, fun _ => b7 trivial⟩
  · rw [hlen]
    rcases key i b hi with ⟨hl, h2⟩ | ⟨rfl, rfl⟩
    · exact (w.2.1 i b h2 j hj).mono (by omega)
    · exact (hok j hj).mono (by omega)
  · rcases key i a hi with ⟨hl, p2⟩ | ⟨rfl, rfl⟩ <;> rcases key j b hj with ⟨ml, q2⟩ | ⟨rfl, rfl⟩
    · rw [he i hl, he j ml] at h4
      exact w.2.2.1 i j a b p2 q2 h1 h2 h3 h4
    · rw [he i hl, hs] at h4
      have := (w.1 i a p2).lt h2
      omega
    · rw [he j ml, hs] at h4
      have := (w.1 j b q2).lt h3
      omega
    · rfl
  · rcases key i a hi with ⟨hl, p2⟩ | ⟨rfl, rfl⟩
    · rw [he i hl]
      exact w.2.2.2 i a p2 h1 h2
    · rw [hs]; exact hz
theorem ai_F.ext {nL : Nat} {ad ad' : Nat → Nat} {n n' : Nat} {lv : ai_L} {st : List Value} {ls : Array Slot} (h : ai_F nL ad n lv st ls) (he : ∀ k, k < n → ad' k = ad k) (hn : n ≤ n') : ai_F nL ad' n' lv st ls := by
  refine ⟨?_, fun q hq => (h.2.1 q hq).mono hn, fun v hv => (h.2.2 v hv).mono hn⟩
  have : ai_lc ad' lv = ai_lc ad lv := List.map_congr_left (fun q hq => by rw [ai_v_ext he (h.2.1 q hq)])
  rw [this]; exact h.1
theorem ai_map_ext {ad ad' : Nat → Nat} {n : Nat} {st : List Value} (h : ∀ v ∈ st, ai_ok n v) (he : ∀ k, k < n → ad' k = ad k) : st.map (ai_v ad') = st.map (ai_v ad) := List.map_congr_left (fun v hv => ai_v_ext he (h v hv))
end
section
/-! fields, arrays, new cells -/
def ai_fit (ty : FieldType) (v : Value) : Bool := match ty, v with
  | .int, .int _ => true
  | .long, .long _ => true
  | .boolean, .int x => x == 0 || x == 1
  | .object _, .null => true
  | .object _, .ref _ => true
  | .array _, .null => true
  | .array _, .ref _ => true
  | _, _ => false
theorem ai_fit_ok {ty : FieldType} {v : Value} (ad : Nat → Nat) (h : ai_fit ty v = true) : narrow ty (ai_v ad v) = ai_v ad v ∧ fits ty (ai_v ad v) = true := by
  unfold ai_fit at h
  split at h <;> first | (cases h; done) | (exact ⟨rfl, rfl⟩) | skip
  rename_i x
  rw [Bool.or_eq_true, beq_iff_eq, beq_iff_eq] at h
  rcases h with rfl | rfl <;> exact ⟨by show narrow FieldType.boolean (Value.int _) = Value.int _; decide, by show fits FieldType.boolean (Value.int _) = true; decide⟩
def ai_sz (h : ai_H) : Nat := (h.map (fun c => c.2.1)).sum
/-- what the tables say of the classes -/
def ai_K (cl : List vw_C) (tyf : Nat → Nat → FieldType) (tb : List Cond) : Prop := ∀ (ci : Nat) (C : String) (T : u_T) (N : Nat), cl[ci]? = some (C, T, N) →
  (∀ w ∈ u_ws C T N, w ∈ tb) ∧ (∀ k, k < N → parseFieldDescriptor (T k).2.2.1 = some (tyf ci k)) ∧ ∀ a, a < N → ∀ b, b < N → a ≠ b → (T a).2.1 ≠ (T b).2.1
/-- the field's entry in the pool: by its own class, or by a class that inherits it -/
def ai_link (tb : List Cond) (own : String) (index : Nat) (T : u_T) (k : Nat) : Prop := Cond.fieldLink own index (T k).1 (T k).2.1 (T k).2.2.1 ∈ tb ∨ ∃ ref, Cond.fieldLink own index ref (T k).2.1 (T k).2.2.1 ∈ tb ∧ Cond.sameField ref (T k).1 (T k).2.1 (T k).2.2.1 ∈ tb
theorem ai_link_ref {tb : List Cond} {own : String} {index : Nat} {T : u_T} {k : Nat} (h : ai_link tb own index T k) {args : Array Value} {s : State} (hts : ∀ w ∈ tb, w.before args s = true) :
    ∃ ref, (Cond.fieldLink own index ref (T k).2.1 (T k).2.2.1).before args s = true ∧ ∀ x, s.fieldFound? (T k).1 (T k).2.1 (T k).2.2.1 = some x → s.fieldFound? ref (T k).2.1 (T k).2.2.1 = some x := by
  rcases h with h | ⟨ref, h1, h2⟩
  · exact ⟨_, hts _ h, fun _ h => h⟩
  · exact ⟨ref, hts _ h1, fun x hx => u_same (hts _ h2) x hx⟩
def ai_get (ci k pc : Nat) (lv : ai_L) (st : List Value) (h : ai_H) : Option ai_O := match st with
  | .ref a :: r => match h[a]? with
    | some (t, n, f) => if decide (t = ci) && decide (k < n) then ai_nx (pc + 3) lv (f k :: r) else none
    | none => none
  | _ => none
def ai_put (ty : FieldType) (P0 ci k pc : Nat) (lv : ai_L) (st : List Value) (h : ai_H) : Option ai_O := match st with
  | v :: .ref a :: r => match h[a]? with
    | some (t, n, f) => if decide (t = ci) && decide (k < n) && decide (P0 ≤ a) && ai_fit ty v then ai_nxE (pc + 3) lv r (.inr (.inl (a, va_up f k v))) else none
    | none => none
  | _ => none
def ai_len (pc : Nat) (lv : ai_L) (st : List Value) (h : ai_H) : Option ai_O := match st with
  | .ref a :: r => match h[a]? with
    | some (t, n, f) => if decide (100 ≤ t) && decide (t < 200) then ai_nx (pc + 1) lv (.int (Int32.ofNat n) :: r) else none
    | none => none
  | _ => none
theorem ai_idx_in {j : Int32} {n : Nat} (h : ai_idx j n = true) : ¬ j < 0 ∧ j.toNatClampNeg < n := by
  unfold ai_idx at h
  rw [Bool.and_eq_true, decide_eq_true_eq, decide_eq_true_eq] at h
  have h0 : (0 : Int32).toInt = 0 := by decide
  refine ⟨fun hj => ?_, ?_⟩
  · have := Int32.lt_iff_toInt_lt.mp hj
    omega
  · have : j.toNatClampNeg = j.toInt.toNat := rfl
    omega
section AIH
variable {p : Program} {l : Launch} {e : Env} {R : Room} {s : State} {m : MethodId} {args : Array Value} {below : List Frame} {meth : Method} {c : Code} {H : Heap} {locs : List Loc} {cells slots : Nat} {Q : State → Prop}
variable {nL pc pc' : Nat} {ad : Nat → Nat} {lv lv' : ai_L} {st st' : List Value} {ls : Array Slot} {x : ai_E} {cc : ByteArray} {h : ai_H}
variable {cl : List vw_C} {tyf : Nat → Nat → FieldType} {tb : List Cond} {D : va_G} {rc : Nat → String} {P0 n0 : Nat} {A : Nat → Prop} {H0 : Heap} {own : String} {index : Nat} {tys : List (ClassId × FieldType)}
theorem ar_get (hx : p.tables.exec = Jvm.exec) (hb : c.code = cc) (hts : ∀ w ∈ tb, w.before args s = true) (hCK : ai_K cl tyf tb) (hown : s.vm.findClass own = some m.cls) (hK : va_K D cl tys s) (hw : ai_w cl D rc P0 n0 ad h s H)
    {ci k N : Nat} {C : String} {T : u_T} (hci : ci < 100) (hc : cl[ci]? = some (C, T, N)) (hk : k < N) (hlink : ai_link tb own index T k) (hdg : decode cc pc = .ok (.getfield index, 3))
    (hq : ai_get ci k pc lv st h = some (.inl (pc', lv', st', x))) (hF : ai_F nL ad h.length lv st ls) (kk : x = .inl () → ai_F nL ad h.length lv' st' ls → W p l e R s m args below meth c H locs cells slots Q (F0 m pc' ls (st'.map (ai_v ad)))) : W p l e R s m args below meth c H locs cells slots Q (F0 m pc ls (st.map (ai_v ad))) := by
  unfold ai_get at hq
  split at hq
  · rename_i a r
    split at hq
    · rename_i t n f ha
      split at hq
      · rename_i hcd
        cases hq
        rw [Bool.and_eq_true, decide_eq_true_eq, decide_eq_true_eq] at hcd
        obtain ⟨rfl, hkn⟩ := hcd
        obtain ⟨r0, h1, h2, cell, q1, q2, q3, q4⟩ := (hw.1 a _ ha).1 hci
        have hr : r0 = (C, T, N) := Option.some.inj (h1.symm.trans hc)
        subst hr
        obtain ⟨hin, -, -⟩ := hCK _ _ _ _ hc
        obtain ⟨ref, hl, hsame⟩ := ai_link_ref hlink hts
        obtain ⟨hS, hfc, kC, hkC, hkind⟩ := hK.1 t _ hc
        obtain ⟨cf, kf, fi, fd, hi, hsl⟩ := hS k hk
        refine W.getf hx hb hown hl (hsame _ hi) (u_facts hfc hkC (u_lays hts hin hk) hi).1 q1 (by rw [q3]; exact fun h => by cases h) (v := ai_v ad (f k)) (by rw [hsl, q4 k hk]) rfl rfl hdg ?_
        exact kk rfl (hF.st (ai_cons (hw.2.1 a _ ha k hkn) (ai_tl hF.2.2)))
      · cases hq
    · cases hq
  · cases hq
theorem ar_put (hx : p.tables.exec = Jvm.exec) (hb : c.code = cc) (hts : ∀ w ∈ tb, w.before args s = true) (hCK : ai_K cl tyf tb) (hown : s.vm.findClass own = some m.cls) (hK : va_K D cl tys s) (hw : ai_w cl D rc P0 n0 ad h s H) (hS0 : va_S A H0 H locs) (hA : ∀ q, n0 ≤ q → A q)
    {ci k N : Nat} {C : String} {T : u_T} (hci : ci < 100) (hc : cl[ci]? = some (C, T, N)) (hk : k < N) (hlink : ai_link tb own index T k) (hfin : (T k).2.2.2 = true → meth.name = "<init>" ∧ (T k).1 = own) (hdg : decode cc pc = .ok (.putfield index, 3))
    (hq : ai_put (tyf ci k) P0 ci k pc lv st h = some (.inl (pc', lv', st', x))) (hF : ai_F nL ad h.length lv st ls)
    (kk : ∀ (H1 : Heap) (locs1 : List Loc), (∃ k f, x = .inr (.inl (k, f)) ∧ k < h.length) → (ai_app h x).length = h.length → ai_F nL ad h.length lv' st' ls → ai_w cl D rc P0 n0 ad (ai_app h x) s H1 → va_S A H0 H1 locs1 → W p l e R s m args below meth c H1 locs1 cells slots Q (F0 m pc' ls (st'.map (ai_v ad)))) : W p l e R s m args below meth c H locs cells slots Q (F0 m pc ls (st.map (ai_v ad))) := by
  unfold ai_put at hq
  split at hq
  · rename_i v a r
    split at hq
    · rename_i t n f ha
      split at hq
      · rename_i hcd
        cases hq
        rw [Bool.and_eq_true, Bool.and_eq_true, Bool.and_eq_true, decide_eq_true_eq, decide_eq_true_eq, decide_eq_true_eq] at hcd
        obtain ⟨⟨⟨rfl, hkn⟩, hPa⟩, hft⟩ := hcd
        obtain ⟨hn, hfit⟩ := ai_fit_ok ad hft
        obtain ⟨r0, h1, h2, cell, q1, q2, q3, q4⟩ := (hw.1 a _ ha).1 hci
        have hr : r0 = (C, T, N) := Option.some.inj (h1.symm.trans hc)
        subst hr
        have h2 : n = N := h2
        subst h2
        obtain ⟨hin, hty, hnm⟩ := hCK _ _ _ _ hc
        obtain ⟨ref, hl, hsame⟩ := ai_link_ref hlink hts
        have hap := va_apart (own := own) hts hin (tyf t) hty hnm hK hc
        obtain ⟨hS, hfc, kC, hkC, hkind⟩ := hK.1 t _ hc
        obtain ⟨cf, kf, fi, fd, hi, hsl⟩ := hS k hk
        have hst := (u_facts hfc hkC (u_lays hts hin hk) hi).1
        have hlay := hts _ (hin _ (u_in_lay hk))
        have hlt : fd.slot < cell.slots.size := by rw [hsl]; exact k2_hasslot (q4 k hk)
        have hlen : (ai_app h (.inr (.inl (a, va_up f k v)))).length = h.length := by simp [ai_app, ha]
        have hfinal : ∀ H' : Heap, H'[ad a]? = some (cell.setSlot fd.slot (ai_v ad v)) → H'.size = H.size → (∀ q, q ≠ ad a → H'[q]? = H[q]?) → W p l e R s m args below meth c H' (locs ++ [⟨ad a, fd.slot⟩]) cells slots Q (F0 m (pc + 3) ls (st'.map (ai_v ad))) := by
          intro H' e1 e2 e3
          refine kk H' _ ⟨_, _, rfl, (List.getElem?_eq_some_iff.mp ha).1⟩ hlen (hF.st (ai_tl (ai_tl hF.2.2))) ?_ (hS0.put e2 e3 (hA _ (hw.2.2.2 a _ ha hPa (by show t < 200; omega))))
          have e9 : ai_app h (.inr (.inl (a, va_up f k v))) = h.set a (t, n, va_up f k v) := by simp [ai_app, ha]
          rw [e9]
          refine hw.set ha hPa (by omega) ⟨fun _ => ⟨_, hc, rfl, ?_⟩, fun h100 _ => absurd hci (by omega)⟩ (fun j hj => ?_) e3
          · rw [hsl] at e1
            refine t_OB.to (V := updV (fun j => ai_v ad (f j)) k (ai_v ad v)) ⟨_, e1, q2, q3, t_set q4 hap hk (ai_v ad v)⟩ (fun j _ => ?_)
            show updV (fun j => ai_v ad (f j)) k (ai_v ad v) j = ai_v ad (va_up f k v j)
            unfold updV va_up
            by_cases hjk : j = k <;> simp [hjk]
          · unfold va_up
            by_cases hjk : j = k
            · rw [if_pos hjk]; exact ai_hd hF.2.2
            · rw [if_neg hjk]; exact hw.2.1 a _ ha j hj
        unfold u_lay at hlay
        by_cases hf : (T k).2.2.2 = true
        · rw [if_pos hf] at hlay
          obtain ⟨hin2, hdecl⟩ := hfin hf
          have hcf : m.cls = cf := by
            obtain ⟨_, _, c', _, _, _, -, -, hf', -, -, -, hown2, -⟩ := Cond.laysFinal_spec hlay
            have e1 : c' = cf := by have := hi.symm.trans hf'; simp at this; exact this.1.symm
            rw [hdecl] at hown2
            rw [← e1]; exact Option.some.inj (hown.symm.trans hown2)
          have h6 := u_fits hfc hkC hkind (Or.inr hlay) hi (hty k hk) hn hfit
          exact W.putFinK hx hb hown hl (hsame _ hi) hst hcf hin2 (by rw [q2]; exact h6) q1 q3 hlt rfl rfl hdg hfinal
        · rw [if_neg hf] at hlay
          have h6 := u_store hfc hkC hkind hlay hi (hty k hk) hn hfit
          exact W.putK hx hb (f := fd) ⟨hown, hl, ⟨_, _, _, hsame _ hi⟩, hst⟩ (by rw [q2]; exact h6) q1 q3 hlt rfl rfl hdg hfinal
      · cases hq
    · cases hq
  · cases hq
theorem ar_len (hx : p.tables.exec = Jvm.exec) (hb : c.code = cc) (hw : ai_w cl D rc P0 n0 ad h s H) (hdg : decode cc pc = .ok (.arraylength, 1))
    (hq : ai_len pc lv st h = some (.inl (pc', lv', st', x))) (hF : ai_F nL ad h.length lv st ls) (kk : x = .inl () → ai_F nL ad h.length lv' st' ls → W p l e R s m args below meth c H locs cells slots Q (F0 m pc' ls (st'.map (ai_v ad)))) : W p l e R s m args below meth c H locs cells slots Q (F0 m pc ls (st.map (ai_v ad))) := by
  unfold ai_len at hq
  split at hq
  · rename_i a r
    split at hq
    · rename_i t n f ha
      split at hq
      · rename_i hcd
        cases hq
        rw [Bool.and_eq_true, decide_eq_true_eq, decide_eq_true_eq] at hcd
        obtain ⟨cell, h1, h2, h3, h4, h5, h6, -⟩ := (hw.1 a _ ha).2 hcd.1 hcd.2
        exact W.alen hx hb h1 h2 h5 rfl rfl hdg (kk rfl (hF.st (ai_cons (ai_ok_i _ _) (ai_tl hF.2.2))))
      · cases hq
    · cases hq
  · cases hq
/-- a load from an array of a kind t -/
theorem ar_ald {ok : Nat → Bool} (hok : ∀ t, ok t = true → 100 ≤ t ∧ t < 200) (hw : ai_w cl D rc P0 n0 ad h s H)
    (row : ∀ (t a n : Nat) (j : Int32) (cell : Cell) (v : Value) (r : List Value), ok t = true → H[a]? = some cell → s.isArrayOf cell (ai_ty rc t) → cell.vm ≠ .unknown → ¬ (j < 0 ∨ cell.slots.size ≤ j.toNatClampNeg) → cell.slots[j.toNatClampNeg]? = some v → W p l e R s m args below meth c H locs cells slots Q (F0 m (pc + 1) ls (v :: r)) → W p l e R s m args below meth c H locs cells slots Q (F0 m pc ls (.int j :: .ref a :: r)))
    (hq : ai_ald ok pc lv st h = some (.inl (pc', lv', st', x))) (hF : ai_F nL ad h.length lv st ls) (kk : x = .inl () → ai_F nL ad h.length lv' st' ls → W p l e R s m args below meth c H locs cells slots Q (F0 m pc' ls (st'.map (ai_v ad)))) : W p l e R s m args below meth c H locs cells slots Q (F0 m pc ls (st.map (ai_v ad))) := by
  unfold ai_ald at hq
  split at hq
  · rename_i j a r
    split at hq
    · rename_i t n f ha
      split at hq
      · rename_i hcd
        cases hq
        rw [Bool.and_eq_true] at hcd
        obtain ⟨ht, hj⟩ := hcd
        obtain ⟨hj0, hj1⟩ := ai_idx_in hj
        obtain ⟨cell, h1, h2, h3, h4, h5, h6, -⟩ := (hw.1 a _ ha).2 (hok t ht).1 (hok t ht).2
        have h4 : n ≤ cell.slots.size := h4
        refine row t (ad a) n j cell _ _ ht h1 h2 h3 (fun hh => hh.elim hj0 (fun h9 => by omega)) (h6 _ hj1) (kk rfl (hF.st (ai_cons (hw.2.1 a _ ha _ hj1) (ai_tl (ai_tl hF.2.2)))))
      · cases hq
    · cases hq
  · cases hq
/-- a store into an array of a kind t -/
theorem ar_ast {ok : Nat → Bool} {nar : Nat → Value → Option Value} (hok : ∀ t, ok t = true → 100 ≤ t ∧ t < 200) (hnar : ∀ t v w, nar t v = some w → ∀ n, ai_ok n v → ai_ok n w) (hw : ai_w cl D rc P0 n0 ad h s H) (hS0 : va_S A H0 H locs) (hA : ∀ q, n0 ≤ q → A q)
    (row : ∀ (t a n : Nat) (j : Int32) (cell : Cell) (v w : Value) (r : List Value), ok t = true → nar t v = some w → ai_ok h.length v → H[a]? = some cell → s.isArrayOf cell (ai_ty rc t) → cell.vm = .none → va_RA s cell.cls (ai_ty rc t) → ¬ (j < 0 ∨ cell.slots.size ≤ j.toNatClampNeg) →
      (∀ H' : Heap, H'[a]? = some (cell.setSlot j.toNatClampNeg (ai_v ad w)) → H'.size = H.size → (∀ q, q ≠ a → H'[q]? = H[q]?) → W p l e R s m args below meth c H' (locs ++ [⟨a, j.toNatClampNeg⟩]) cells slots Q (F0 m (pc + 1) ls r)) → W p l e R s m args below meth c H locs cells slots Q (F0 m pc ls (ai_v ad v :: .int j :: .ref a :: r)))
    (hq : ai_ast ok nar P0 pc lv st h = some (.inl (pc', lv', st', x))) (hF : ai_F nL ad h.length lv st ls)
    (kk : ∀ (H1 : Heap) (locs1 : List Loc), (∃ k f, x = .inr (.inl (k, f)) ∧ k < h.length) → (ai_app h x).length = h.length → ai_F nL ad h.length lv' st' ls → ai_w cl D rc P0 n0 ad (ai_app h x) s H1 → va_S A H0 H1 locs1 → W p l e R s m args below meth c H1 locs1 cells slots Q (F0 m pc' ls (st'.map (ai_v ad)))) : W p l e R s m args below meth c H locs cells slots Q (F0 m pc ls (st.map (ai_v ad))) := by
  unfold ai_ast at hq
  split at hq
  · rename_i v j a r
    split at hq
    · rename_i t n f ha
      split at hq
      · rename_i w hwv
        split at hq
        · rename_i hcd
          cases hq
          rw [Bool.and_eq_true, Bool.and_eq_true, decide_eq_true_eq] at hcd
          obtain ⟨⟨ht, hj⟩, hPa⟩ := hcd
          obtain ⟨hj0, hj1⟩ := ai_idx_in hj
          obtain ⟨cell, h1, h2, h3, h4, h5, h6, h7⟩ := (hw.1 a _ ha).2 (hok t ht).1 (hok t ht).2
          obtain ⟨h8, h9, h10⟩ := h7 hPa
          have h10 : cell.slots.size = n := h10
          refine row t (ad a) n j cell v w _ ht hwv (ai_hd hF.2.2) h1 h2 h9 h8 (fun hh => hh.elim hj0 (fun h9 => by omega)) (fun H' e1 e2 e3 => ?_)
          have hlen : (ai_app h (.inr (.inl (a, va_up f j.toNatClampNeg w)))).length = h.length := by simp [ai_app, ha]
          refine kk H' _ ⟨_, _, rfl, (List.getElem?_eq_some_iff.mp ha).1⟩ hlen (hF.st (ai_tl (ai_tl (ai_tl hF.2.2)))) ?_ (hS0.put e2 e3 (hA _ (hw.2.2.2 a _ ha hPa (hok t ht).2)))
          have e9 : ai_app h (.inr (.inl (a, va_up f j.toNatClampNeg w))) = h.set a (t, n, va_up f j.toNatClampNeg w) := by simp [ai_app, ha]
          rw [e9]
          refine hw.set ha hPa (hok t ht).2 ⟨fun h0 => absurd (hok t ht).1 (by have h0 : t < 100 := h0; omega), fun _ _ => ⟨_, e1, ⟨h2.1, h2.2⟩, h3, ?_, ?_, fun i hi => ?_, fun _ => ⟨h8, h9, ?_⟩⟩⟩ (fun i hi => ?_) e3
          · show n ≤ _
            simp only [Cell.setSlot, Array.size_setIfInBounds]; omega
          · show _ = Int32.ofNat n
            simp only [Cell.setSlot, Array.size_setIfInBounds]; exact h5
          · have hi : i < n := hi
            show (cell.setSlot j.toNatClampNeg (ai_v ad w)).slots[i]? = some (ai_v ad (va_up f j.toNatClampNeg w i))
            simp only [Cell.setSlot]
            by_cases hij : i = j.toNatClampNeg
            · subst hij
              rw [Array.getElem?_setIfInBounds_self_of_lt (by omega)]
              simp [va_up]
            · rw [Array.getElem?_setIfInBounds_ne (fun q => hij q.symm), h6 i hi]
              simp [va_up, hij]
          · show _ = n
            simp only [Cell.setSlot, Array.size_setIfInBounds]; exact h10
          · unfold va_up
            by_cases hij : i = j.toNatClampNeg
            · rw [if_pos hij]; exact hnar t v w hwv _ (ai_hd hF.2.2)
            · rw [if_neg hij]; exact hw.2.1 a _ ha i hi
        · cases hq
      · cases hq
    · cases hq
  · cases hq
end AIH
end
section
/-! new objects and arrays -/
def ai_newo (ty : Nat → FieldType) (ci N pc : Nat) (lv : ai_L) (st : List Value) (h : ai_H) : Option ai_O := ai_nxE (pc + 3) lv (.ref h.length :: st) (.inr (.inr (ci, N, fun j => defaultValue (ty j))))
def ai_newa (ty : FieldType) (t len pc : Nat) (lv : ai_L) (st : List Value) (h : ai_H) : Option ai_O := match st with
  | .int n :: r => if decide (0 ≤ n.toInt) && decide (n.toInt ≤ 50000000) then ai_nxE (pc + len) lv (.ref h.length :: r) (.inr (.inr (t, n.toNatClampNeg, fun _ => defaultValue ty))) else none
  | _ => none
theorem ai_dv_ok (n : Nat) (ty : FieldType) : ai_ok n (defaultValue ty) := fun k h => by cases ty <;> cases h
theorem ai_dv (ad : Nat → Nat) (ty : FieldType) : ai_v ad (defaultValue ty) = defaultValue ty := by cases ty <;> rfl
theorem ai_app_push (h : ai_H) (c : ai_C) : ai_app h (.inr (.inr c)) = h ++ [c] := rfl
section AIN
variable {p : Program} {l : Launch} {e : Env} {R : Room} {s : State} {m : MethodId} {args : Array Value} {below : List Frame} {meth : Method} {c : Code} {H : Heap} {locs : List Loc} {cells slots : Nat} {Q : State → Prop}
variable {nL pc pc' : Nat} {ad : Nat → Nat} {lv lv' : ai_L} {st st' : List Value} {ls : Array Slot} {x : ai_E} {cc : ByteArray} {h : ai_H}
variable {cl : List vw_C} {tyf : Nat → Nat → FieldType} {tb : List Cond} {D : va_G} {rc : Nat → String} {P0 n0 : Nat} {A : Nat → Prop} {H0 : Heap} {own : String} {index : Nat} {tys : List (ClassId × FieldType)}
/-- behind a new cell: its number, its address, the frame -/
theorem ai_born {r : List Value} (hF : ai_F nL ad h.length lv r ls) (q : Nat) : ai_F nL (va_up ad h.length q) (h.length + 1) lv (.ref h.length :: r) ls ∧ (Value.ref h.length :: r).map (ai_v (va_up ad h.length q)) = .ref q :: r.map (ai_v ad) ∧ ∀ k, k < h.length → va_up ad h.length q k = ad k := by
  have he : ∀ k, k < h.length → va_up ad h.length q k = ad k := fun k hk => by simp [va_up, Nat.ne_of_lt hk]
  refine ⟨⟨(hF.ext he (Nat.le_succ _)).1, (hF.ext he (Nat.le_succ _)).2.1, ai_cons (fun k hk => by cases hk; exact Nat.lt_succ_self _) (hF.ext he (Nat.le_succ _)).2.2⟩, ?_, he⟩
  rw [List.map_cons, ai_map_ext hF.2.2 he]
  simp [ai_v, va_up]
theorem ai_push_S {H1 : Heap} (hS0 : va_S A H0 H locs) (z1 : H1.size = H.size + 1) (o1 : ∀ q, q < H.size → H1[q]? = H[q]?) : va_S A H0 H1 locs :=
  ⟨Nat.le_trans hS0.1 (by omega), fun x h1 h2 => (o1 x (Nat.lt_of_lt_of_le h1 hS0.1)).trans (hS0.2.1 x h1 h2), hS0.2.2⟩
theorem ar_new (hx : p.tables.exec = Jvm.exec) (hb : c.code = cc) (hts : ∀ w ∈ tb, w.before args s = true) (hCK : ai_K cl tyf tb) (hown : s.vm.findClass own = some m.cls) (hK : va_K D cl tys s) (hw : ai_w cl D rc P0 n0 ad h s H) (hS0 : va_S A H0 H locs) (hn0 : n0 ≤ H0.size)
    {ci N : Nat} {C : String} {T : u_T} (hci : ci < 100) (hc : cl[ci]? = some (C, T, N)) (hcl : Cond.classLink own index C ∈ tb) (hinst : Cond.instantiable C N ∈ tb) (hini : Cond.initialized C ∈ tb) (hcells : cells + 1 ≤ R.cells) (hslots : slots + N ≤ R.slots) (hdg : decode cc pc = .ok (.new index, 3))
    (hq : ai_newo (tyf ci) ci N pc lv st h = some (.inl (pc', lv', st', x))) (hF : ai_F nL ad h.length lv st ls)
    (kk : ∀ (ad' : Nat → Nat) (H1 : Heap), (∃ c : ai_C, x = .inr (.inr c) ∧ c.2.1 = N) → (∀ k, k < h.length → ad' k = ad k) → ai_F nL ad' (h.length + 1) lv' st' ls → ai_w cl D rc P0 n0 ad' (ai_app h x) s H1 → va_S A H0 H1 locs → W p l e R s m args below meth c H1 locs (cells + 1) (slots + N) Q (F0 m pc' ls (st'.map (ai_v ad')))) : W p l e R s m args below meth c H locs cells slots Q (F0 m pc ls (st.map (ai_v ad))) := by
  unfold ai_newo ai_nxE at hq
  cases hq
  obtain ⟨hin, hty, -⟩ := hCK _ _ _ _ hc
  have hKn := hK.1 ci _ hc
  refine W.newcK hx hb hown (hts _ hcl) (hts _ hinst) (hts _ hini) rfl hdg hcells hslots hKn.2.1 rfl fun H1 kC hkC e1 z1 o1 => ?_
  obtain ⟨hF', hm, he⟩ := ai_born hF H.size
  refine W.eq (g2 := F0 m (pc + 3) ls ((Value.ref h.length :: st).map (ai_v (va_up ad h.length H.size)))) (by rw [hm]) ?_
  refine kk _ H1 ⟨_, rfl, rfl⟩ he hF' ?_ (ai_push_S hS0 z1 o1)
  rw [ai_app_push]
  refine hw.push (Nat.le_trans hn0 hS0.1) ⟨fun _ => ⟨_, hc, rfl, ?_⟩, fun h100 _ => absurd hci (by have h100 : 100 ≤ ci := h100; omega)⟩ (Nat.le_refl _) (fun j hj => ai_dv_ok _ _) o1
  exact (u_born (tyf ci) hts hin hKn hkC e1 hty).to (fun j hj => (ai_dv ad _).symm)
theorem ai_in_range {n : Int32} (h : (decide (0 ≤ n.toInt) && decide (n.toInt ≤ 50000000)) = true) : ¬ n < 0 ∧ n.toNatClampNeg ≤ 50000000 ∧ (n.toNatClampNeg).toInt32 = Int32.ofNat n.toNatClampNeg := by
  rw [Bool.and_eq_true, decide_eq_true_eq, decide_eq_true_eq] at h
  have h0 : (0 : Int32).toInt = 0 := by decide
  have h1 : n.toNatClampNeg = n.toInt.toNat := rfl
  refine ⟨fun hj => ?_, by omega, rfl⟩
  have := Int32.lt_iff_toInt_lt.mp hj
  omega
theorem ar_arr {ty : FieldType} {t N : Nat} {q : Nat} {cA : ClassId} {kA : Class} {comp : ClassId} {H1 : Heap} (hH1 : H1 = H.push ({ cls := cA, slots := Array.replicate N (defaultValue ty), vm := .none } : Cell)) (hty : ai_ty rc t = ty) (ht : 100 ≤ t) (f2 : s.vm.classes[cA]? = some kA) (f3 : kA.kind = .array comp ty) (f4 : va_RA s cA ty) :
    ai_at cl D rc ad s H1 True H.size (t, N, fun _ => defaultValue ty) ∧ H1.size = H.size + 1 ∧ ∀ q : Nat, q < H.size → H1[q]? = H[q]? := by
  have z1 : H1.size = H.size + 1 := by rw [hH1, Array.size_push]
  have o1 : ∀ q : Nat, q < H.size → H1[q]? = H[q]? := fun q hq => by rw [hH1, Array.getElem?_push, if_neg (Nat.ne_of_lt hq)]
  have e1 : H1[H.size]? = some ({ cls := cA, slots := Array.replicate N (defaultValue ty), vm := .none } : Cell) := by rw [hH1, Array.getElem?_push_size]
  refine ⟨⟨fun h0 => absurd ht (by have h0 : t < 100 := h0; omega), fun _ _ => ⟨_, e1, ?_, (fun h => by cases h), ?_, ?_, fun j hj => ?_, fun _ => ⟨?_, rfl, ?_⟩⟩⟩, z1, o1⟩
  · show s.isArrayOf _ (ai_ty rc t)
    rw [hty]
    exact ⟨(fun k h => by cases h), kA, f2, comp, f3⟩
  · show N ≤ (Array.replicate N (defaultValue ty)).size
    rw [Array.size_replicate]
    exact Nat.le_refl _
  · show (Array.replicate N (defaultValue ty)).size.toInt32 = Int32.ofNat N
    rw [Array.size_replicate]
  · have hj : j < N := hj
    show (Array.replicate N (defaultValue ty))[j]? = some (ai_v ad (defaultValue ty))
    rw [ai_dv]
    simp [hj]
  · show va_RA s cA (ai_ty rc t)
    rw [hty]; exact f4
  · show (Array.replicate N (defaultValue ty)).size = N
    simp
theorem ar_newa (hx : p.tables.exec = Jvm.exec) (hb : c.code = cc) (hw : ai_w cl D rc P0 n0 ad h s H) (hS0 : va_S A H0 H locs) (hn0 : n0 ≤ H0.size)
    {atype : ArrayType} {t : Nat} (hty : ai_ty rc t = newarray.typeOf atype) (ht : 100 ≤ t) (harr : (Cond.arrayClass (newarray.typeOf atype)).before args s = true) (hcm : ∀ r n, st = .int n :: r → cells + 1 ≤ R.cells ∧ slots + n.toNatClampNeg ≤ R.slots) (hdg : decode cc pc = .ok (.newarray atype, 2))
    (hq : ai_newa (newarray.typeOf atype) t 2 pc lv st h = some (.inl (pc', lv', st', x))) (hF : ai_F nL ad h.length lv st ls)
    (kk : ∀ (ad' : Nat → Nat) (H1 : Heap) (N : Nat), (∃ c : ai_C, x = .inr (.inr c) ∧ c.2.1 = N) → (∀ k, k < h.length → ad' k = ad k) → ai_F nL ad' (h.length + 1) lv' st' ls → ai_w cl D rc P0 n0 ad' (ai_app h x) s H1 → va_S A H0 H1 locs → W p l e R s m args below meth c H1 locs (cells + 1) (slots + N) Q (F0 m pc' ls (st'.map (ai_v ad')))) : W p l e R s m args below meth c H locs cells slots Q (F0 m pc ls (st.map (ai_v ad))) := by
  unfold ai_newa at hq
  split at hq
  · rename_i n r
    split at hq
    · rename_i hcd
      unfold ai_nxE at hq
      cases hq
      obtain ⟨g1, g2, -⟩ := ai_in_range hcd
      have hcb : componentBytes (newarray.typeOf atype) ≤ 8 := by cases atype <;> decide
      refine W.newa hx hb harr rfl hdg rfl g1 (Nat.le_trans (Nat.mul_le_mul g2 hcb) (by decide)) (hcm _ _ rfl).1 (hcm _ _ rfl).2 fun cA kA comp f1 f2 f3 => ?_
      have hFr := hF.st (ai_tl hF.2.2)
      obtain ⟨hF', hm, he⟩ := ai_born hFr H.size
      have hRA : va_RA s cA (newarray.typeOf atype) := by cases atype <;> exact f1
      obtain ⟨hat, z1, o1⟩ := ar_arr (cl := cl) (D := D) (rc := rc) (ad := ad) (q := 0) (N := n.toNatClampNeg) rfl hty ht f2 f3 hRA
      refine W.eq (g2 := F0 m (pc + 2) ls ((Value.ref h.length :: r).map (ai_v (va_up ad h.length H.size)))) (by rw [hm]) ?_
      refine kk _ _ n.toNatClampNeg ⟨_, rfl, rfl⟩ he hF' ?_ (ai_push_S hS0 z1 o1)
      rw [ai_app_push]
      exact hw.push (Nat.le_trans hn0 hS0.1) hat (Nat.le_refl _) (fun j hj => ai_dv_ok _ _) o1
    · cases hq
  · cases hq
theorem ar_anew (hx : p.tables.exec = Jvm.exec) (hb : c.code = cc) (hown : s.vm.findClass own = some m.cls) (hw : ai_w cl D rc P0 n0 ad h s H) (hS0 : va_S A H0 H locs) (hn0 : n0 ≤ H0.size)
    {C : String} {t : Nat} (hty : ai_ty rc t = .object C) (ht : 100 ≤ t) (hclink : (Cond.classLink own index C).before args s = true) (hover : va_AO C s) (hcm : ∀ r n, st = .int n :: r → cells + 1 ≤ R.cells ∧ slots + n.toNatClampNeg ≤ R.slots) (hdg : decode cc pc = .ok (.anewarray index, 3))
    (hq : ai_newa (.object C) t 3 pc lv st h = some (.inl (pc', lv', st', x))) (hF : ai_F nL ad h.length lv st ls)
    (kk : ∀ (ad' : Nat → Nat) (H1 : Heap) (N : Nat), (∃ c : ai_C, x = .inr (.inr c) ∧ c.2.1 = N) → (∀ k, k < h.length → ad' k = ad k) → ai_F nL ad' (h.length + 1) lv' st' ls → ai_w cl D rc P0 n0 ad' (ai_app h x) s H1 → va_S A H0 H1 locs → W p l e R s m args below meth c H1 locs (cells + 1) (slots + N) Q (F0 m pc' ls (st'.map (ai_v ad')))) : W p l e R s m args below meth c H locs cells slots Q (F0 m pc ls (st.map (ai_v ad))) := by
  unfold ai_newa at hq
  split at hq
  · rename_i n r
    split at hq
    · rename_i hcd
      unfold ai_nxE at hq
      cases hq
      obtain ⟨g1, g2, -⟩ := ai_in_range hcd
      refine W.anew hx hb hown hclink (va_AO.use hover) rfl hdg rfl g1 (by omega) (hcm _ _ rfl).1 (hcm _ _ rfl).2 fun cA kA comp f1 f2 f3 f4 => ?_
      have hFr := hF.st (ai_tl hF.2.2)
      obtain ⟨hF', hm, he⟩ := ai_born hFr H.size
      have hRA : va_RA s cA (.object C) := ⟨kA, comp, f2, f3, f4, f1⟩
      obtain ⟨hat, z1, o1⟩ := ar_arr (cl := cl) (D := D) (rc := rc) (ad := ad) (q := 0) (N := n.toNatClampNeg) rfl hty ht f2 f3 hRA
      refine W.eq (g2 := F0 m (pc + 3) ls ((Value.ref h.length :: r).map (ai_v (va_up ad h.length H.size)))) (by rw [hm]) ?_
      refine kk _ _ n.toNatClampNeg ⟨_, rfl, rfl⟩ he hF' ?_ (ai_push_S hS0 z1 o1)
      rw [ai_app_push]
      exact hw.push (Nat.le_trans hn0 hS0.1) hat (Nat.le_refl _) (fun j hj => ai_dv_ok _ (.object C)) o1
    · cases hq
  · cases hq
end AIN
end
section
/-! System.arraycopy over numbers; references compared; references stored into arrays -/
def ai_copy (rc : Nat → String) (P0 d w pc : Nat) (lv : ai_L) (st : List Value) (h : ai_H) : Option ai_O := match st with
  | .int n :: .int dp :: .ref b :: .int sp :: .ref a :: r => match h[a]?, h[b]? with
    | some (t, n0, f), some (t', n1, g) =>
      if decide (t = t') && decide (100 ≤ t) && decide (t ≤ 104) && decide (P0 ≤ b) && decide (0 ≤ sp.toInt) && decide (0 ≤ dp.toInt) && decide (0 ≤ n.toInt) && decide (sp.toNatClampNeg + n.toNatClampNeg ≤ n0) && decide (dp.toNatClampNeg + n.toNatClampNeg ≤ n1) && (List.range n.toNatClampNeg).all (fun i => fits (ai_ty rc t) (f (sp.toNatClampNeg + i))) && decide (1 ≤ d) && decide ((r.map fun v => v.category).sum + 18 ≤ w)
      then ai_nxE (pc + 3) lv r (.inr (.inl (b, va_cpy f g sp.toNatClampNeg dp.toNatClampNeg n.toNatClampNeg))) else none
    | _, _ => none
  | _ => none
def ai_same (P0 : Nat) (h : ai_H) (u v : Value) : Option Bool := match u, v with
  | .null, .null => some true
  | .null, .ref _ => some false
  | .ref _, .null => some false
  | .ref i, .ref j => if i = j then some true else match h[i]?, h[j]? with
    | some a, some b => if decide (P0 ≤ i) && decide (a.1 < 200) && decide (b.1 < 200) then some false else none
    | _, _ => none
  | _, _ => none
def ai_acmp (eq : Bool) (P0 tgt pc : Nat) (lv : ai_L) (st : List Value) (h : ai_H) : Option ai_O := match st with
  | v :: u :: r => match ai_same P0 h u v with
    | some b => if b = eq then ai_nx tgt lv r else ai_nx (pc + 3) lv r
    | none => none
  | _ => none
def ai_narA (ac : Nat → Nat → Bool) (h : ai_H) (t : Nat) (v : Value) : Option Value := match v with
  | .null => some .null
  | .ref b => match h[b]? with
    | some c => if decide (c.1 < 100) && ac t c.1 then some (.ref b) else none
    | none => none
  | _ => none
theorem ai_prim {rc : Nat → String} {t : Nat} (h1 : 100 ≤ t) (h2 : t ≤ 104) : refKind (ai_ty rc t) = false ∧ ∀ (ad : Nat → Nat) (v : Value), fits (ai_ty rc t) v = true → ai_v ad v = v ∧ ∀ n, ai_ok n v := by
  have h : t = 100 ∨ t = 101 ∨ t = 102 ∨ t = 103 ∨ t = 104 := by omega
  rcases h with rfl | rfl | rfl | rfl | rfl <;> refine ⟨rfl, fun ad v hv => ?_⟩ <;> cases v <;> first | (cases hv; done) | (exact ⟨rfl, fun _ _ hk => by cases hk⟩)
section AIC
variable {p : Program} {l : Launch} {e : Env} {R : Room} {s : State} {m : MethodId} {args : Array Value} {below : List Frame} {meth : Method} {c : Code} {H : Heap} {locs : List Loc} {cells slots : Nat} {Q : State → Prop}
variable {nL pc pc' d w : Nat} {ad : Nat → Nat} {lv lv' : ai_L} {st st' : List Value} {ls : Array Slot} {x : ai_E} {cc : ByteArray} {h : ai_H}
variable {cl : List vw_C} {D : va_G} {rc : Nat → String} {P0 n0 : Nat} {A : Nat → Prop} {H0 : Heap} {own : String} {index : Nat}
theorem ai_nn {z : Int32} (h : 0 ≤ z.toInt) : ¬ z < 0 ∧ z.toInt = (z.toNatClampNeg : Int) := by
  have h0 : (0 : Int32).toInt = 0 := by decide
  have h1 : z.toNatClampNeg = z.toInt.toNat := rfl
  refine ⟨fun hj => ?_, by omega⟩
  have := Int32.lt_iff_toInt_lt.mp hj
  omega
theorem ar_copy (hx : p.tables.exec = Jvm.exec) (hb : c.code = cc) (hml : c.maxLocals = nL) (hown : s.vm.findClass own = some m.cls) (hlink : (Cond.methodLink own index arraycopyName).before args s = true) (hnat : (Cond.native arraycopyName).before args s = true) (hstat : (Cond.static arraycopyName).before args s = true) (hini : (Cond.initialized "java/lang/System").before args s = true)
    (hw : ai_w cl D rc P0 n0 ad h s H) (hS0 : va_S A H0 H locs) (hA : ∀ q, n0 ≤ q → A q) (hRf : d ≤ R.frames) (hRl : w ≤ R.locals) (hdg : decode cc pc = .ok (.invokestatic index, 3))
    (hq : ai_copy rc P0 d w pc lv st h = some (.inl (pc', lv', st', x))) (hF : ai_F nL ad h.length lv st ls)
    (kk : ∀ (H1 : Heap) (locs1 : List Loc), (∃ k f, x = .inr (.inl (k, f)) ∧ k < h.length) → (ai_app h x).length = h.length → ai_F nL ad h.length lv' st' ls → ai_w cl D rc P0 n0 ad (ai_app h x) s H1 → va_S A H0 H1 locs1 → W p l e R s m args below meth c H1 locs1 cells slots Q (F0 m pc' ls (st'.map (ai_v ad)))) : W p l e R s m args below meth c H locs cells slots Q (F0 m pc ls (st.map (ai_v ad))) := by
  unfold ai_copy at hq
  split at hq
  · rename_i n dp b sp a r
    split at hq
    · rename_i t n1 f t' n2 g ha hbb
      split at hq
      · rename_i hcd
        cases hq
        simp only [Bool.and_eq_true, decide_eq_true_eq, List.all_eq_true, List.mem_range] at hcd
        obtain ⟨⟨⟨⟨⟨⟨⟨⟨⟨⟨⟨rfl, c1⟩, c2⟩, c3⟩, c4⟩, c5⟩, c6⟩, c7⟩, c8⟩, c9⟩, c10⟩, c11⟩ := hcd
        obtain ⟨g1, g2⟩ := ai_nn c4
        obtain ⟨g3, g4⟩ := ai_nn c5
        obtain ⟨g5, g6⟩ := ai_nn c6
        obtain ⟨hprim, hpv⟩ := ai_prim (rc := rc) c1 c2
        obtain ⟨cs, s1, s2, s3, s4, s5, s6, -⟩ := (hw.1 a _ ha).2 c1 (by show t < 200; omega)
        obtain ⟨cd, d1, d2, d3, d4, d5, d6, d7⟩ := (hw.1 b _ hbb).2 c1 (by show t < 200; omega)
        obtain ⟨d8, d9, d10⟩ := d7 c3
        obtain ⟨s7, ks, hks, sComp, hsk⟩ := s2
        obtain ⟨d11, kd, hkd, dComp, hdk⟩ := d2
        have s4 : n1 ≤ cs.slots.size := s4
        have d10 : cd.slots.size = n2 := d10
        have hval : ∀ i, i < n.toNatClampNeg → cs.slots.getD (sp.toNatClampNeg + i) .null = f (sp.toNatClampNeg + i) := fun i hi => by
          rw [Array.getD_eq_getD_getElem?, s6 _ (show sp.toNatClampNeg + i < n1 by omega)]
          exact (hpv ad _ (c9 i hi)).1
        intro T hT X
        obtain ⟨vm', X', step⟩ := X.arraycopy hx hown hlink hnat hstat hini (src := ad a) (dst := ad b) (cs := cs) (cd := cd) (srcPos := sp) (destPos := dp) (n := n) (by rw [hT]; exact s1) (by rw [hT]; exact d1) s7 d11 s3 d3 hks hkd hsk hdk (by simp [hprim]) g1 g3 g5 (by rw [g2, g6]; omega) (by rw [g4, g6]; omega)
          (fun vm₁ _ i hi => by
            rw [hval i hi]
            refine ⟨c9 i hi, ?_⟩
            have h9 := (hpv ad _ (c9 i hi)).2 0
            cases hv9 : f (sp.toNatClampNeg + i) with
            | ref z => exact absurd (h9 z hv9) (Nat.not_lt_zero _)
            | _ => exact trivial)
          (g := F0 m pc ls ((Value.int n :: .int dp :: .ref b :: .int sp :: .ref a :: st').map (ai_v ad))) rfl (by rw [hml]; exact hF.1.1) (rest := st'.map (ai_v ad)) rfl (by rw [hb]; exact hdg) (by omega) (by
            have h9 : ((st'.map (ai_v ad)).map fun v => v.category).sum = (st'.map fun v => v.category).sum := by
              rw [List.map_map]
              congr 1
              exact List.map_congr_left (fun v _ => ai_cat ad v)
            show 2 * 0 + _ + (7 + 11) ≤ _
            rw [h9]
            omega)
        have hl : ad b < H.size := (Array.getElem?_eq_some_iff.mp d1).1
        have hheap : ((T.setVm vm').setCell (ad b) (copied cs cd sp dp n)).heap = H.setIfInBounds (ad b) (copied cs cd sp dp n) := by rw [← hT]; rfl
        have oq : ∀ q : Nat, q ≠ ad b → (H.setIfInBounds (ad b) (copied cs cd sp dp n))[q]? = H[q]? := fun q hq => by simp [Array.getElem?_setIfInBounds, Ne.symm hq]
        have e1 : (H.setIfInBounds (ad b) (copied cs cd sp dp n))[ad b]? = some (copied cs cd sp dp n) := by simp [Array.getElem?_setIfInBounds, hl]
        have hbA : A (ad b) := hA _ (hw.2.2.2 b _ hbb c3 (by show t < 200; omega))
        have hS1 : va_S A H0 (H.setIfInBounds (ad b) (copied cs cd sp dp n)) (locs ++ (cs.stretch sp.toNatClampNeg n.toNatClampNeg).zipIdx.map fun q => ⟨ad b, dp.toNatClampNeg + q.2⟩) := ⟨by simp; exact hS0.1, fun q g1 g2 => by
          rw [oq q (fun e => g2 (by rw [e]; exact hbA))]
          exact hS0.2.1 q g1 g2, fun q hq => by
          rcases List.mem_append.mp hq with h | h
          · exact hS0.2.2 q h
          · obtain ⟨z, -, hz⟩ := List.mem_map.mp h
            rw [← hz]
            exact hbA⟩
        have hlen : (ai_app h (.inr (.inl (b, va_cpy f g sp.toNatClampNeg dp.toNatClampNeg n.toNatClampNeg)))).length = h.length := by simp [ai_app, hbb]
        have hfacts := Cell.storeRun_facts cd dp.toNatClampNeg (cs.stretch sp.toNatClampNeg n.toNatClampNeg)
        have hw1 : ai_w cl D rc P0 n0 ad (ai_app h (.inr (.inl (b, va_cpy f g sp.toNatClampNeg dp.toNatClampNeg n.toNatClampNeg)))) s (H.setIfInBounds (ad b) (copied cs cd sp dp n)) := by
          have e9 : ai_app h (.inr (.inl (b, va_cpy f g sp.toNatClampNeg dp.toNatClampNeg n.toNatClampNeg))) = h.set b (t, n2, va_cpy f g sp.toNatClampNeg dp.toNatClampNeg n.toNatClampNeg) := by simp [ai_app, hbb]
          rw [e9]
          have hcc : copied cs cd sp dp n = cd.storeRun dp.toNatClampNeg (cs.stretch sp.toNatClampNeg n.toNatClampNeg) := rfl
          have hget : ∀ j, j < n2 → (copied cs cd sp dp n).slots[j]? = some (ai_v ad (va_cpy f g sp.toNatClampNeg dp.toNatClampNeg n.toNatClampNeg j)) := by
            intro j hj
            rw [hcc, Cell.storeRun_get cd dp.toNatClampNeg _ j (by rw [Cell.stretch_length]; omega), Cell.stretch_length]
            unfold va_cpy
            split
            · rename_i hj9
              have hi9 : j - dp.toNatClampNeg < n.toNatClampNeg := by omega
              rw [(hpv ad _ (c9 _ hi9)).1, ← hval _ hi9]
              simp [Cell.stretch, hi9]
            · exact d6 j hj
          refine hw.set hbb c3 (by omega) ⟨fun h0 => absurd c1 (by have h0 : t < 100 := h0; omega), fun _ _ => ⟨_, e1, ?_, ?_, ?_, ?_, fun i hi => hget i hi, fun _ => ⟨?_, ?_, ?_⟩⟩⟩ (fun j hj => ?_) oq
          · exact ⟨fun k => by rw [hcc, hfacts.2.1]; exact d11 k, kd, by rw [hcc, hfacts.1]; exact hkd, dComp, hdk⟩
          · rw [hcc, hfacts.2.1]; exact d3
          · show n2 ≤ _
            rw [hcc, hfacts.2.2.1]; omega
          · show _ = Int32.ofNat n2
            rw [hcc, hfacts.2.2.1]; exact d5
          · rw [hcc, hfacts.1]; exact d8
          · rw [hcc, hfacts.2.1]; exact d9
          · show _ = n2
            rw [hcc, hfacts.2.2.1]; exact d10
          · unfold va_cpy
            split
            · rename_i hj9
              exact hw.2.1 a _ ha _ (show sp.toNatClampNeg + (j - dp.toNatClampNeg) < n1 by omega)
            · exact hw.2.1 b _ hbb j hj
        obtain ⟨t9, a1, b1⟩ := kk _ _ ⟨_, _, rfl, (List.getElem?_eq_some_iff.mp hbb).1⟩ hlen (hF.st (ai_tl (ai_tl (ai_tl (ai_tl (ai_tl hF.2.2)))))) hw1 hS1 _ hheap X'
        exact ⟨t9, step t9 a1, b1⟩
      · cases hq
    · cases hq
  · cases hq
theorem ai_same_ok (hw : ai_w cl D rc P0 n0 ad h s H) {u v : Value} {b : Bool} (hq : ai_same P0 h u v = some b) : ∃ ru rv : Option Nat, ai_v ad u = va_rf ru ∧ ai_v ad v = va_rf rv ∧ (b = true ↔ ru = rv) := by
  unfold ai_same at hq
  split at hq
  · cases hq; exact ⟨none, none, rfl, rfl, by simp⟩
  · cases hq; exact ⟨none, some _, rfl, rfl, by simp⟩
  · cases hq; exact ⟨some _, none, rfl, rfl, by simp⟩
  · rename_i i j
    refine ⟨some (ad i), some (ad j), rfl, rfl, ?_⟩
    split at hq
    · rename_i hij
      cases hq
      subst hij
      simp
    · rename_i hij
      split at hq
      · rename_i a9 b9 ha9 hb9
        split at hq
        · rename_i hcd
          cases hq
          simp only [Bool.and_eq_true, decide_eq_true_eq] at hcd
          refine ⟨fun h => (by cases h), fun h => absurd (hw.2.2.1 i j _ _ ha9 hb9 hcd.1.1 hcd.1.2 hcd.2 (Option.some.inj h)) hij⟩
        · cases hq
      · cases hq
  · cases hq
theorem ar_acmp {eq : Bool} {tgt : Nat} (hw : ai_w cl D rc P0 n0 ad h s H)
    (row : ∀ (ru rv : Option Nat) (r : List Value), ((ru = rv ↔ eq = true) → W p l e R s m args below meth c H locs cells slots Q (F0 m tgt ls r)) → (¬ (ru = rv ↔ eq = true) → W p l e R s m args below meth c H locs cells slots Q (F0 m (pc + 3) ls r)) → W p l e R s m args below meth c H locs cells slots Q (F0 m pc ls (va_rf rv :: va_rf ru :: r)))
    (hq : ai_acmp eq P0 tgt pc lv st h = some (.inl (pc', lv', st', x))) (hF : ai_F nL ad h.length lv st ls) (kk : x = .inl () → ai_F nL ad h.length lv' st' ls → W p l e R s m args below meth c H locs cells slots Q (F0 m pc' ls (st'.map (ai_v ad)))) : W p l e R s m args below meth c H locs cells slots Q (F0 m pc ls (st.map (ai_v ad))) := by
  unfold ai_acmp at hq
  split at hq
  · rename_i v u r
    split at hq
    · rename_i b hb9
      obtain ⟨ru, rv, e1, e2, e3⟩ := ai_same_ok hw hb9
      refine W.eq (g2 := F0 m pc ls (va_rf rv :: va_rf ru :: r.map (ai_v ad))) (by rw [← e1, ← e2]; rfl) ?_
      split at hq
      · rename_i hbe
        cases hq
        subst hbe
        refine row _ _ _ (fun _ => kk rfl (hF.st (ai_tl (ai_tl hF.2.2)))) (fun hn => absurd e3.symm hn)
      · rename_i hbe
        cases hq
        refine row _ _ _ (fun hh => absurd ?_ hbe) (fun _ => kk rfl (hF.st (ai_tl (ai_tl hF.2.2))))
        exact Bool.eq_iff_iff.mpr (e3.trans hh)
    · cases hq
  · cases hq
/-- a reference into an array: of the elements' own class, or of one that can be cast to it -/
theorem ar_aast {ac : Nat → Nat → Bool} {nw : List Cond} (hx : p.tables.exec = Jvm.exec) (hb : c.code = cc) (hK : va_K D cl [] s) (hnw : ∀ w ∈ nw, va_Nw w s) (hac : ∀ t b, ac t b = true → ∃ (C : String) (T : u_T) (N : Nat), cl[b]? = some (C, T, N) ∧ (C = rc t ∨ Cond.castable C (rc t) ∈ nw)) (hw : ai_w cl D rc P0 n0 ad h s H) (hS0 : va_S A H0 H locs) (hA : ∀ q, n0 ≤ q → A q) (hdg : decode cc pc = .ok (.aastore, 1))
    (hq : ai_ast (fun t => decide (110 ≤ t) && decide (t < 200)) (ai_narA ac h) P0 pc lv st h = some (.inl (pc', lv', st', x))) (hF : ai_F nL ad h.length lv st ls)
    (kk : ∀ (H1 : Heap) (locs1 : List Loc), (∃ k f, x = .inr (.inl (k, f)) ∧ k < h.length) → (ai_app h x).length = h.length → ai_F nL ad h.length lv' st' ls → ai_w cl D rc P0 n0 ad (ai_app h x) s H1 → va_S A H0 H1 locs1 → W p l e R s m args below meth c H1 locs1 cells slots Q (F0 m pc' ls (st'.map (ai_v ad)))) : W p l e R s m args below meth c H locs cells slots Q (F0 m pc ls (st.map (ai_v ad))) := by
  have key : ∀ t v w, ai_narA ac h t v = some w → w = v ∧ (v = .null ∨ ∃ b cb, v = .ref b ∧ h[b]? = some cb ∧ cb.1 < 100 ∧ ac t cb.1 = true) := by
    intro t v w hv
    unfold ai_narA at hv
    split at hv
    · cases hv; exact ⟨rfl, Or.inl rfl⟩
    · rename_i b
      split at hv
      · rename_i cb hcb
        split at hv
        · rename_i hcd
          cases hv
          rw [Bool.and_eq_true, decide_eq_true_eq] at hcd
          exact ⟨rfl, Or.inr ⟨b, cb, rfl, hcb, hcd.1, hcd.2⟩⟩
        · cases hv
      · cases hv
    · cases hv
  refine ar_ast (fun t ht => by simp at ht; omega) (fun t v w hv n hn => by rw [(key t v w hv).1]; exact hn) hw hS0 hA (fun t a n j cell v w r ht hv hvo g1 g2 g3 g4 g5 kx => ?_) hq hF kk
  simp at ht
  have hty : ai_ty rc t = .object (rc t) := by unfold ai_ty; rw [if_neg (by omega), if_neg (by omega), if_neg (by omega), if_neg (by omega), if_neg (by omega)]
  rw [hty] at g2 g4
  obtain ⟨rfl, hcase⟩ := key t v w hv
  rcases hcase with rfl | ⟨b, cb, rfl, hcb, hc1, hc2⟩
  · exact va_WaastN hx hb g1 g2 (by rw [g3]; exact fun z => by cases z) g5 rfl rfl hdg kx
  · obtain ⟨C, T, N, hcl, hCC⟩ := hac t cb.1 hc2
    obtain ⟨r0, h1, h2, cellV, q1, q2, q3, q4⟩ := (hw.1 b cb hcb).1 hc1
    obtain ⟨kA, comp, k1, k2, k3, k4⟩ := g4
    have hcls := (hK.1 cb.1 _ hcl).2
    obtain ⟨kC, hkC, -⟩ := hcls.2
    obtain ⟨kE, hkE, -⟩ := Vm.findClass_spec k3
    have hasg : s.vm.assignable (D.1 cb.1) comp = true := by
      rcases hCC with rfl | hca
      · have : comp = D.1 cb.1 := Option.some.inj (k3.symm.trans hcls.1)
        subst this
        exact va_assign hcls
      · obtain ⟨c0, t1, f1, f2, f3⟩ := Cond.castable_spec (va_Nw.use (A := args) rfl (hnw _ hca))
        cases hcls.1.symm.trans f1
        cases k3.symm.trans f2
        exact f3
    exact W.aast hx hb g1 (fun q h => by rw [g3] at h; cases h) (by rw [g3]; exact fun z => by cases z) k1 k2 rfl hkE ⟨fun z => g5 (Or.inl z), Nat.lt_of_not_le (fun z => g5 (Or.inr z))⟩ q1 (fun q h => by rw [q3] at h; cases h) (by rw [q2]; exact hkC) (by rw [q2]; exact hasg) rfl rfl hdg kx
end AIC
end
section
/-! one instruction -/
def ai_ret (st : List Value) (ok : Value → Bool) : Option ai_O := match st with
  | [v] => if ok v then some (.inr (.inr (.inl (some v)))) else none
  | _ => none
def ai_inc (i : Nat) (rv : Value) (nL pc : Nat) (lv : ai_L) (st : List Value) : Option ai_O := match lv.lookup i, rv with
  | some (.int x), .int k => if i < nL then ai_nx (pc + 3) (ai_st1 i (.int (x + k)) lv) st else none
  | _, _ => none
def ai_retok (ty : Option FieldType) (v : Value) : Bool := match ty, v with
  | some .int, .int _ => true
  | some .boolean, .int x => x == 0 || x == 1
  | some .byte, .int x => x.toInt8.toInt32 == x
  | some .char, .int x => x.toUInt32.toUInt16.toUInt32.toInt32 == x
  | _, _ => false
def ai_rtJ (ty : Option FieldType) : Bool := match ty with | some .long => true | _ => false
def ai_rtA (ty : Option FieldType) : Bool := match ty with | some (.object _) => true | some (.array _) => true | _ => false
def ai_sw (lo hi : Int) (dflt : Int) (offs : Array Int) (pc : Nat) (lv : ai_L) (st : List Value) : Option ai_O := match st with
  | .int x :: r => if x.toInt < lo ∨ hi < x.toInt then (if 0 ≤ (pc : Int) + dflt then ai_nx ((pc : Int) + dflt).toNat lv r else none) else match offs[(x.toInt - lo).toNat]? with
    | some off => if 0 ≤ (pc : Int) + off then ai_nx ((pc : Int) + off).toNat lv r else none
    | none => none
  | _ => none
def ai_inv (virt : Bool) (q : ai_I) (pc : Nat) (lv : ai_L) (st : List Value) (h : ai_H) : Option ai_O :=
  if st.length < q.r2 then none else if virt then (match (st.take q.r2).reverse with
    | .ref a :: _ => match h[a]? with
      | some (t, _, _) => if q.rv = .retAddr t then some (.inr (.inl (q.r1, (st.take q.r2).reverse, st.drop q.r2))) else none
      | none => none
    | _ => none) else some (.inr (.inl (q.r1, (st.take q.r2).reverse, st.drop q.r2)))
def ai_wt (st : List Value) : Nat := (st.map fun v => v.category).sum
/-- Math.min, max over int (5002, 5003), max over long (5004) -/
def ai_math (k d w pc : Nat) (lv : ai_L) (st : List Value) : Option ai_O := match st with
  | .int y :: .int x :: r => if 1 ≤ d ∧ ai_wt r + 13 ≤ w then (if k = 5002 then ai_nx (pc + 3) lv (.int (if y < x then y else x) :: r) else if k = 5003 then ai_nx (pc + 3) lv (.int (if x < y then y else x) :: r) else none) else none
  | .long y :: .long x :: r => if 1 ≤ d ∧ ai_wt r + 15 ≤ w ∧ k = 5004 then ai_nx (pc + 3) lv (.long (if y < x then x else y) :: r) else none
  | _ => none
def ai_ex (P : ai_P) (d w nL : Nat) (rt : Option FieldType) (q : ai_I) (pc : Nat) (lv : ai_L) (st : List Value) (h : ai_H) : Option ai_O := match q.ins with
  | .iconst _ => ai_nx (pc + 1) lv (q.rv :: st)
  | .bipush _ => ai_nx (pc + 2) lv (q.rv :: st)
  | .sipush _ => ai_nx (pc + 3) lv (q.rv :: st)
  | .lconst _ => ai_nx (pc + 1) lv (q.rv :: st)
  | .ldc _ => ai_nx (pc + 2) lv (q.rv :: st)
  | .ldc_w _ => ai_nx (pc + 3) lv (q.rv :: st)
  | .ldc2_w _ => ai_nx (pc + 3) lv (q.rv :: st)
  | .getstatic _ => ai_nx (pc + 3) lv (q.rv :: st)
  | .aconst_null => ai_nx (pc + 1) lv (.null :: st)
  | .iload i => ai_ld i ai_isI 2 pc lv st
  | .iload_n i => ai_ld i ai_isI 1 pc lv st
  | .lload i => ai_ld i ai_isJ 2 pc lv st
  | .lload_n i => ai_ld i ai_isJ 1 pc lv st
  | .aload i => ai_ld i ai_isA 2 pc lv st
  | .aload_n i => ai_ld i ai_isA 1 pc lv st
  | .istore i => ai_sto i ai_isI 2 nL pc lv st
  | .istore_n i => ai_sto i ai_isI 1 nL pc lv st
  | .astore i => ai_sto i ai_isA 2 nL pc lv st
  | .astore_n i => ai_sto i ai_isA 1 nL pc lv st
  | .lstore i => ai_stoL i 2 nL pc lv st
  | .lstore_n i => ai_stoL i 1 nL pc lv st
  | .iinc i _ => ai_inc i q.rv nL pc lv st
  | .iadd => ai_bin (fun x y => x + y) pc lv st
  | .isub => ai_bin (fun x y => x - y) pc lv st
  | .imul => ai_bin (fun x y => x * y) pc lv st
  | .iand => ai_bin (fun x y => x &&& y) pc lv st
  | .ior => ai_bin (fun x y => x ||| y) pc lv st
  | .ixor => ai_bin (fun x y => x ^^^ y) pc lv st
  | .ishl => ai_bin (fun x y => x <<< (y &&& 31)) pc lv st
  | .ishr => ai_bin (fun x y => x >>> (y &&& 31)) pc lv st
  | .iushr => ai_bin (fun x y => (x.toUInt32 >>> (y.toUInt32 &&& Int32.toUInt32 31)).toInt32) pc lv st
  | .ladd => ai_binL (fun x y => x + y) pc lv st
  | .lsub => ai_binL (fun x y => x - y) pc lv st
  | .lmul => ai_binL (fun x y => x * y) pc lv st
  | .land => ai_binL (fun x y => x &&& y) pc lv st
  | .lor => ai_binL (fun x y => x ||| y) pc lv st
  | .lxor => ai_binL (fun x y => x ^^^ y) pc lv st
  | .lshl => ai_binS (fun x y => x <<< (y.toInt64 &&& 63)) pc lv st
  | .lshr => ai_binS (fun x y => x >>> (y.toInt64 &&& 63)) pc lv st
  | .idiv => ai_div (fun x y => x / y) pc lv st
  | .irem => ai_div (fun x y => x - x / y * y) pc lv st
  | .i2b => ai_un (fun x => x.toInt8.toInt32) pc lv st
  | .i2c => ai_un (fun x => (x.toUInt32 % 65536).toInt32) pc lv st
  | .i2l => (match st with | .int x :: r => ai_nx (pc + 1) lv (.long x.toInt64 :: r) | _ => none)
  | .l2i => (match st with | .long x :: r => ai_nx (pc + 1) lv (.int x.toInt32 :: r) | _ => none)
  | .lcmp => (match st with | .long y :: .long x :: r => ai_nx (pc + 1) lv (.int (lg_cmp x y) :: r) | _ => none)
  | .dup => (match st with | v :: r => if v.category = 1 then ai_nx (pc + 1) lv (v :: v :: r) else none | _ => none)
  | .pop => (match st with | v :: r => if v.category = 1 then ai_nx (pc + 1) lv r else none | _ => none)
  | .dup2 => (match st with | v :: w :: r => if v.category = 1 ∧ w.category = 1 then ai_nx (pc + 1) lv (v :: w :: v :: w :: r) else none | _ => none)
  | .dup_x1 => (match st with | v :: w :: r => if v.category = 1 ∧ w.category = 1 then ai_nx (pc + 1) lv (v :: w :: v :: r) else none | _ => none)
  | .ifCond k _ => (match k with
    | .eq => ai_if (fun x => x == 0) q.r1 pc lv st
    | .ne => ai_if (fun x => !(x == 0)) q.r1 pc lv st
    | .lt => ai_if (fun x => decide (x < 0)) q.r1 pc lv st
    | .ge => ai_if (fun x => decide (0 ≤ x)) q.r1 pc lv st
    | .gt => ai_if (fun x => decide (0 < x)) q.r1 pc lv st
    | .le => ai_if (fun x => decide (x ≤ 0)) q.r1 pc lv st)
  | .if_icmp k _ => (match k with
    | .eq => ai_cmp (fun x y => x == y) q.r1 pc lv st
    | .ne => ai_cmp (fun x y => !(x == y)) q.r1 pc lv st
    | .lt => ai_cmp (fun x y => decide (x < y)) q.r1 pc lv st
    | .ge => ai_cmp (fun x y => decide (y ≤ x)) q.r1 pc lv st
    | .gt => ai_cmp (fun x y => decide (y < x)) q.r1 pc lv st
    | .le => ai_cmp (fun x y => decide (x ≤ y)) q.r1 pc lv st)
  | .ifnull _ => (match st with | .null :: r => ai_nx q.r1 lv r | .ref _ :: r => ai_nx (pc + 3) lv r | _ => none)
  | .ifnonnull _ => (match st with | .null :: r => ai_nx (pc + 3) lv r | .ref _ :: r => ai_nx q.r1 lv r | _ => none)
  | .goto _ => ai_nx q.r1 lv st
  | .tableswitch d lo hi offs => ai_sw lo hi d offs pc lv st
  | .getfield _ => ai_get q.r1 q.r2 pc lv st h
  | .putfield _ => ai_put (P.ty q.r1 q.r2) P.p0 q.r1 q.r2 pc lv st h
  | .new _ => if q.r2 = 9999 then some (.inr (.inr (.inr q.r1))) else ai_newo (P.ty q.r1) q.r1 q.r2 pc lv st h
  | .newarray t => ai_newa (newarray.typeOf t) q.r1 2 pc lv st h
  | .anewarray _ => ai_newa (.object (P.rc q.r1)) q.r1 3 pc lv st h
  | .iaload => ai_ald (fun t => t == 102) pc lv st h
  | .baload => ai_ald (fun t => t == 100 || t == 101) pc lv st h
  | .laload => ai_ald (fun t => t == 103) pc lv st h
  | .aaload => ai_ald (fun t => decide (110 ≤ t) && decide (t < 200)) pc lv st h
  | .iastore => ai_ast (fun t => t == 102) ai_narI P.p0 pc lv st h
  | .bastore => ai_ast (fun t => t == 100 || t == 101) ai_narB P.p0 pc lv st h
  | .lastore => ai_ast (fun t => t == 103) ai_narJ P.p0 pc lv st h
  | .arraylength => ai_len pc lv st h
  | .checkcast _ => (match st with | .null :: r => ai_nx (pc + 3) lv (.null :: r) | .ref a :: r => (match h[a]? with | some (t, _, _) => if t = q.r1 then ai_nx (pc + 3) lv (.ref a :: r) else none | none => none) | _ => none)
  | .invokestatic _ => if q.r1 = 5001 then ai_copy P.rc P.p0 d w pc lv st h else if 5002 ≤ q.r1 ∧ q.r1 ≤ 5004 then ai_math q.r1 d w pc lv st else ai_inv false q pc lv st h
  | .aastore => ai_ast (fun t => decide (110 ≤ t) && decide (t < 200)) (ai_narA P.ac h) P.p0 pc lv st h
  | .if_acmp k _ => (match k with
    | .eq => ai_acmp true P.p0 q.r1 pc lv st h
    | .ne => ai_acmp false P.p0 q.r1 pc lv st h)
  | .invokevirtual _ => ai_inv true q pc lv st h
  | .invokespecial _ => if q.r1 = 5000 then (match st with | .ref _ :: r => if 1 ≤ d ∧ 20 ≤ w ∧ ai_wt r ≤ 8 then ai_nx (pc + 3) lv r else none | _ => none) else (match (st.take q.r2).reverse with | .ref _ :: _ => ai_inv false q pc lv st h | _ => none)
  | .ireturn => ai_ret st (ai_retok rt)
  | .lreturn => ai_ret st (fun v => ai_isJ v && ai_rtJ rt)
  | .areturn => ai_ret st (fun v => ai_isA v && ai_rtA rt)
  | .return_ => (match st, rt with | [], none => some (.inr (.inr (.inl none))) | _, _ => none)
  | _ => none
end
section
/-! what is known of an instruction's entries; a step of the interpreter is a step of the machine -/
def ai_fok (tb : List Cond) (cl : List vw_C) (own : String) (idx r1 r2 : Nat) (nm : Option String) : Prop := r1 < 100 ∧ ∃ (C : String) (T : u_T) (N : Nat), cl[r1]? = some (C, T, N) ∧ r2 < N ∧ ai_link tb own idx T r2 ∧ ∀ z, nm = some z → (T r2).2.2.2 = true → z = "<init>" ∧ (T r2).1 = own
abbrev ai_SL : Type := List (String × String × String × Value)
def ai_mathok (tb : List Cond) (own : String) (idx k : Nat) : Prop := Cond.initialized "java/lang/Math" ∈ tb ∧ (k = 5002 → Cond.methodLink own idx Lib.Math.min.name ∈ tb ∧ Cond.static Lib.Math.min.name ∈ tb ∧ Cond.code Lib.Math.min.name Lib.Math.min.code 2 (some .int) ∈ tb) ∧ (k = 5003 → Cond.methodLink own idx Lib.Math.max.name ∈ tb ∧ Cond.static Lib.Math.max.name ∈ tb ∧ Cond.code Lib.Math.max.name Lib.Math.max.code 2 (some .int) ∈ tb) ∧ (k = 5004 → Cond.methodLink own idx Lib.MathLoose.max_long.x ∈ tb ∧ Cond.static Lib.MathLoose.max_long.x ∈ tb ∧ Cond.code Lib.MathLoose.max_long.x Lib.MathLoose.max_long.code 4 (some .long) ∈ tb)
def ai_iok (tb nw : List Cond) (cl : List vw_C) (rc : Nat → String) (sl : ai_SL) (ao : List String) (own nm : String) (pc : Nat) (q : ai_I) : Prop := match q.ins with
  | .iconst n => q.len = 1 ∧ q.rv = .int (Int32.ofInt n)
  | .bipush n => q.len = 2 ∧ q.rv = .int (Int8.ofInt n).toInt32
  | .sipush n => q.len = 3 ∧ q.rv = .int (Int16.ofInt n).toInt32
  | .lconst n => q.len = 1 ∧ q.rv = .long (Int64.ofNat (n : Nat))
  | .ldc idx => q.len = 2 ∧ ∃ v, q.rv = .int v ∧ Cond.constant own idx v ∈ tb
  | .ldc_w idx => q.len = 3 ∧ ∃ v, q.rv = .int v ∧ Cond.constant own idx v ∈ tb
  | .ldc2_w idx => q.len = 3 ∧ ∃ v, q.rv = .long v ∧ Cond.constantLong own idx v ∈ tb
  | .getstatic idx => q.len = 3 ∧ ∃ C n d, (C, n, d, q.rv) ∈ sl ∧ (Cond.fieldLink own idx C n d ∈ tb ∨ ∃ host, Cond.fieldLinkNest own idx C n d host ∈ nw)
  | .iload _ => q.len = 2 | .lload _ => q.len = 2 | .aload _ => q.len = 2 | .istore _ => q.len = 2 | .lstore _ => q.len = 2 | .astore _ => q.len = 2
  | .iinc _ n => q.len = 3 ∧ q.rv = .int (Int32.ofInt n)
  | .ifCond _ off => q.len = 3 ∧ (pc : Int) + off = q.r1
  | .if_icmp _ off => q.len = 3 ∧ (pc : Int) + off = q.r1
  | .ifnull off => q.len = 3 ∧ (pc : Int) + off = q.r1
  | .ifnonnull off => q.len = 3 ∧ (pc : Int) + off = q.r1
  | .goto off => q.len = 3 ∧ (pc : Int) + off = q.r1
  | .tableswitch .. => True
  | .getfield idx => q.len = 3 ∧ ai_fok tb cl own idx q.r1 q.r2 none
  | .putfield idx => q.len = 3 ∧ ai_fok tb cl own idx q.r1 q.r2 (some nm)
  | .new idx => q.len = 3 ∧ (q.r2 = 9999 ∨ (q.r1 < 100 ∧ ∃ (C : String) (T : u_T), cl[q.r1]? = some (C, T, q.r2) ∧ Cond.classLink own idx C ∈ tb ∧ Cond.instantiable C q.r2 ∈ tb ∧ Cond.initialized C ∈ tb))
  | .newarray t => q.len = 2 ∧ ai_ty rc q.r1 = newarray.typeOf t ∧ 100 ≤ q.r1 ∧ Cond.arrayClass (newarray.typeOf t) ∈ tb
  | .anewarray idx => q.len = 3 ∧ ai_ty rc q.r1 = .object (rc q.r1) ∧ 100 ≤ q.r1 ∧ Cond.classLink own idx (rc q.r1) ∈ tb ∧ rc q.r1 ∈ ao
  | .checkcast idx => q.len = 3 ∧ q.r1 < 100 ∧ ∃ (C : String) (T : u_T) (N : Nat), cl[q.r1]? = some (C, T, N) ∧ Cond.classLink own idx C ∈ tb
  | .invokespecial idx => q.len = 3 ∧ (q.r1 = 5000 → Cond.methodLink own idx objectInit ∈ tb ∧ Cond.instanceMethod objectInit ∈ tb ∧ Cond.code objectInit ⟨#[0xb1]⟩ 1 none ∈ tb)
  | .invokestatic idx => q.len = 3 ∧ (q.r1 = 5001 → Cond.methodLink own idx arraycopyName ∈ tb ∧ Cond.native arraycopyName ∈ tb ∧ Cond.static arraycopyName ∈ tb ∧ Cond.initialized "java/lang/System" ∈ tb) ∧ (5002 ≤ q.r1 ∧ q.r1 ≤ 5004 → ai_mathok tb own idx q.r1)
  | .if_acmp _ off => q.len = 3 ∧ (pc : Int) + off = q.r1
  | .invokevirtual _ => q.len = 3
  | _ => q.len = 1
theorem ai_wt_map (ad : Nat → Nat) (st : List Value) : ((st.map (ai_v ad)).map fun v => v.category).sum = ai_wt st := by
  unfold ai_wt
  rw [List.map_map]
  congr 1
  exact List.map_congr_left (fun v _ => ai_cat ad v)
theorem ai_isI_cat : ∀ v, ai_isI v = true → v.category = 1 := fun v h => by cases v <;> first | rfl | cases h
theorem ai_isA_cat : ∀ v, ai_isA v = true → v.category = 1 := fun v h => by cases v <;> first | rfl | cases h
section AIS
variable {p : Program} {l : Launch} {e : Env} {R : Room} {s : State} {m : MethodId} {args : Array Value} {below : List Frame} {meth : Method} {c : Code} {H : Heap} {locs : List Loc} {cells slots : Nat} {Q : State → Prop}
variable {d w nL pc pc' : Nat} {rt : Option FieldType} {ad : Nat → Nat} {lv lv' : ai_L} {st st' : List Value} {ls : Array Slot} {x : ai_E} {cc : ByteArray} {h : ai_H} {q : ai_I}
variable {P : ai_P} {cl : List vw_C} {tb : List Cond} {D : va_G} {n0 : Nat} {A : Nat → Prop} {own : String} {tys : List (ClassId × FieldType)} {sl : ai_SL} {ao : List String} {nw : List Cond}
set_option maxHeartbeats 4000000 in
set_option maxRecDepth 100000 in
theorem ai_step (hx : p.tables.exec = Jvm.exec) (hb : c.code = cc) (hml : c.maxLocals = nL) (hts : ∀ w ∈ tb, w.before args s = true) (hCK : ai_K cl P.ty tb) (hown : s.vm.findClass own = some m.cls) (hK : va_K D cl [] s) (hac : ∀ t b, P.ac t b = true → ∃ (C : String) (T : u_T) (N : Nat), cl[b]? = some (C, T, N) ∧ (C = P.rc t ∨ Cond.castable C (P.rc t) ∈ nw))
    (hsl : ∀ z ∈ sl, va_Z z.1 z.2.1 z.2.2.1 (ai_v ad z.2.2.2) A s s.heap) (hslok : ∀ z ∈ sl, ai_ok h.length z.2.2.2) (hao : ∀ C ∈ ao, va_AO C s) (hnw : ∀ w ∈ nw, va_Nw w s) (hw : ai_w cl D P.rc P.p0 n0 ad h s H) (hS0 : va_S A s.heap H locs) (hA : ∀ q, n0 ≤ q → A q) (hn0 : n0 ≤ s.heap.size) (hRf : d ≤ R.frames) (hRl : w ≤ R.locals)
    (hdg : decode cc pc = .ok (q.ins, q.len)) (hok : ai_iok tb nw cl P.rc sl ao own meth.name pc q) (hq : ai_ex P d w nL rt q pc lv st h = some (.inl (pc', lv', st', x))) (hF : ai_F nL ad h.length lv st ls)
    (hr1 : cells + (ai_app h x).length ≤ R.cells + h.length) (hr2 : slots + ai_sz (ai_app h x) ≤ R.slots + ai_sz h)
    (kk : ∀ (ad' : Nat → Nat) (ls' : Array Slot) (H1 : Heap) (locs1 : List Loc) (c1 s1 : Nat), (∀ k, k < h.length → ad' k = ad k) → ai_F nL ad' (ai_app h x).length lv' st' ls' → ai_w cl D P.rc P.p0 n0 ad' (ai_app h x) s H1 → va_S A s.heap H1 locs1 → c1 + h.length = cells + (ai_app h x).length → s1 + ai_sz h = slots + ai_sz (ai_app h x) →
      W p l e R s m args below meth c H1 locs1 c1 s1 Q (F0 m pc' ls' (st'.map (ai_v ad')))) : W p l e R s m args below meth c H locs cells slots Q (F0 m pc ls (st.map (ai_v ad))) := by
  have k0 : ∀ ls', x = .inl () → ai_F nL ad h.length lv' st' ls' → W p l e R s m args below meth c H locs cells slots Q (F0 m pc' ls' (st'.map (ai_v ad))) := fun ls' hx' hF' => by subst hx'; exact kk ad ls' H locs cells slots (fun _ _ => rfl) hF' hw hS0 rfl rfl
  have k1 : ∀ (H1 : Heap) (locs1 : List Loc), (∃ k f, x = .inr (.inl (k, f)) ∧ k < h.length) → (ai_app h x).length = h.length → ai_F nL ad h.length lv' st' ls → ai_w cl D P.rc P.p0 n0 ad (ai_app h x) s H1 → va_S A s.heap H1 locs1 → W p l e R s m args below meth c H1 locs1 cells slots Q (F0 m pc' ls (st'.map (ai_v ad))) := by
    intro H1 locs1 ⟨k, f, hx', hkl⟩ hlen hF' hw' hS'
    have hsz : ai_sz (ai_app h x) = ai_sz h := by
      subst hx'
      have hg : h[k]? = some h[k] := List.getElem?_eq_getElem hkl
      simp only [ai_app, hg, ai_sz, List.map_set]
      congr 1
      apply List.ext_getElem? 
      intro i
      by_cases hik : i = k
      · subst hik
        rw [List.getElem?_set_self (by simpa using hkl)]
        simp [hkl]
      · rw [List.getElem?_set_ne (Ne.symm hik)]
    exact kk ad ls H1 locs1 cells slots (fun _ _ => rfl) (by rw [hlen]; exact hF') hw' hS' (by rw [hlen]) (by rw [hsz])
  have k2 : ∀ (ad' : Nat → Nat) (H1 : Heap) (N : Nat), (∃ c : ai_C, x = .inr (.inr c) ∧ c.2.1 = N) → (∀ k, k < h.length → ad' k = ad k) → ai_F nL ad' (h.length + 1) lv' st' ls → ai_w cl D P.rc P.p0 n0 ad' (ai_app h x) s H1 → va_S A s.heap H1 locs → W p l e R s m args below meth c H1 locs (cells + 1) (slots + N) Q (F0 m pc' ls (st'.map (ai_v ad'))) := by
    intro ad' H1 N ⟨c9, hx', hN⟩ he hF' hw' hS'
    have hlen : (ai_app h x).length = h.length + 1 := by subst hx'; simp [ai_app]
    have hsz : ai_sz (ai_app h x) = ai_sz h + N := by subst hx'; subst hN; simp [ai_app, ai_sz]
    exact kk ad' ls H1 locs (cells + 1) (slots + N) he (by rw [hlen]; exact hF') hw' hS' (by rw [hlen]; omega) (by rw [hsz]; omega)
  have kr : ∀ c9 : ai_C, x = .inr (.inr c9) → cells + 1 ≤ R.cells ∧ slots + c9.2.1 ≤ R.slots := by
    intro c9 hx'
    have hlen : (ai_app h x).length = h.length + 1 := by subst hx'; simp [ai_app]
    have hsz : ai_sz (ai_app h x) = ai_sz h + c9.2.1 := by subst hx'; simp [ai_app, ai_sz]
    rw [hlen] at hr1
    rw [hsz] at hr2
    exact ⟨by omega, by omega⟩
  obtain ⟨i, len, r1, r2, rv⟩ := q
  dsimp only [ai_I.ins, ai_I.len, ai_I.r1, ai_I.r2, ai_I.rv] at hdg
  cases i with
  | iconst n =>
    dsimp only [ai_iok, ai_I.ins, ai_I.len, ai_I.r1, ai_I.r2, ai_I.rv] at hok; dsimp only [ai_ex, ai_I.ins, ai_I.len, ai_I.r1, ai_I.r2, ai_I.rv] at hq
    obtain ⟨rfl, rfl⟩ := hok; cases hq; exact lv_iconst hx hb hdg rfl (k0 ls rfl (hF.st (ai_cons (ai_ok_i _ _) hF.2.2)))
  | bipush n =>
    dsimp only [ai_iok, ai_I.ins, ai_I.len, ai_I.r1, ai_I.r2, ai_I.rv] at hok; dsimp only [ai_ex, ai_I.ins, ai_I.len, ai_I.r1, ai_I.r2, ai_I.rv] at hq
    obtain ⟨rfl, rfl⟩ := hok; cases hq; exact lv_bipush hx hb hdg rfl (k0 ls rfl (hF.st (ai_cons (ai_ok_i _ _) hF.2.2)))
  | sipush n =>
    dsimp only [ai_iok, ai_I.ins, ai_I.len, ai_I.r1, ai_I.r2, ai_I.rv] at hok; dsimp only [ai_ex, ai_I.ins, ai_I.len, ai_I.r1, ai_I.r2, ai_I.rv] at hq
    obtain ⟨rfl, rfl⟩ := hok; cases hq; exact lv_sipush hx hb hdg rfl (k0 ls rfl (hF.st (ai_cons (ai_ok_i _ _) hF.2.2)))
  | lconst n =>
    dsimp only [ai_iok, ai_I.ins, ai_I.len, ai_I.r1, ai_I.r2, ai_I.rv] at hok; dsimp only [ai_ex, ai_I.ins, ai_I.len, ai_I.r1, ai_I.r2, ai_I.rv] at hq
    obtain ⟨rfl, rfl⟩ := hok; cases hq; exact lv_lconst hx hb hdg rfl (k0 ls rfl (hF.st (ai_cons (ai_ok_l _ _) hF.2.2)))
  | ldc n =>
    dsimp only [ai_iok, ai_I.ins, ai_I.len, ai_I.r1, ai_I.r2, ai_I.rv] at hok; dsimp only [ai_ex, ai_I.ins, ai_I.len, ai_I.r1, ai_I.r2, ai_I.rv] at hq
    obtain ⟨rfl, v, rfl, hc⟩ := hok; cases hq; exact lv_ldc hx hb hown (hts _ hc) hdg (k0 ls rfl (hF.st (ai_cons (ai_ok_i _ _) hF.2.2)))
  | ldc_w n =>
    dsimp only [ai_iok, ai_I.ins, ai_I.len, ai_I.r1, ai_I.r2, ai_I.rv] at hok; dsimp only [ai_ex, ai_I.ins, ai_I.len, ai_I.r1, ai_I.r2, ai_I.rv] at hq
    obtain ⟨rfl, v, rfl, hc⟩ := hok; cases hq; exact lv_ldcw hx hb hown (hts _ hc) hdg (k0 ls rfl (hF.st (ai_cons (ai_ok_i _ _) hF.2.2)))
  | ldc2_w n =>
    dsimp only [ai_iok, ai_I.ins, ai_I.len, ai_I.r1, ai_I.r2, ai_I.rv] at hok; dsimp only [ai_ex, ai_I.ins, ai_I.len, ai_I.r1, ai_I.r2, ai_I.rv] at hq
    obtain ⟨rfl, v, rfl, hc⟩ := hok; cases hq; exact lv_ldc2 hx hb hown (hts _ hc) hdg (k0 ls rfl (hF.st (ai_cons (ai_ok_l _ _) hF.2.2)))
  | getstatic n =>
    dsimp only [ai_iok, ai_I.ins, ai_I.len, ai_I.r1, ai_I.r2, ai_I.rv] at hok; dsimp only [ai_ex, ai_I.ins, ai_I.len, ai_I.r1, ai_I.r2, ai_I.rv] at hq
    obtain ⟨rfl, C, nn, dd, hc, hl⟩ := hok; cases hq; rcases hl with hl | ⟨host, hl⟩
    · exact va_gets hx hb (hsl _ hc) hS0 hown (hts _ hl) (fun _ h => h) hdg (k0 ls rfl (hF.st (ai_cons (hslok _ hc) hF.2.2)))
    · exact va_getsN hx hb (hsl _ hc) hS0 hown (va_Nw.use rfl (hnw _ hl)) (fun _ h => h) hdg (k0 ls rfl (hF.st (ai_cons (hslok _ hc) hF.2.2)))
  | aconst_null =>
    dsimp only [ai_iok, ai_I.ins, ai_I.len, ai_I.r1, ai_I.r2, ai_I.rv] at hok; dsimp only [ai_ex, ai_I.ins, ai_I.len, ai_I.r1, ai_I.r2, ai_I.rv] at hq
    subst hok; cases hq; exact lv_null hx hb hdg (k0 ls rfl (hF.st (ai_cons (ai_ok_n _) hF.2.2)))
  | iload i =>
    dsimp only [ai_iok, ai_I.ins, ai_I.len, ai_I.r1, ai_I.r2, ai_I.rv] at hok; dsimp only [ai_ex, ai_I.ins, ai_I.len, ai_I.r1, ai_I.r2, ai_I.rv] at hq
    subst hok; refine ar_ld (fun v hv hl kx => ?_) hq hF (k0 ls)
    cases v <;> first | (exact lv_iload hx hb hdg hl kx) | (cases hv)
  | iload_n i =>
    dsimp only [ai_iok, ai_I.ins, ai_I.len, ai_I.r1, ai_I.r2, ai_I.rv] at hok; dsimp only [ai_ex, ai_I.ins, ai_I.len, ai_I.r1, ai_I.r2, ai_I.rv] at hq
    subst hok; refine ar_ld (fun v hv hl kx => ?_) hq hF (k0 ls)
    cases v <;> first | (exact lv_iload_n hx hb hdg rfl hl kx) | (cases hv)
  | lload i =>
    dsimp only [ai_iok, ai_I.ins, ai_I.len, ai_I.r1, ai_I.r2, ai_I.rv] at hok; dsimp only [ai_ex, ai_I.ins, ai_I.len, ai_I.r1, ai_I.r2, ai_I.rv] at hq
    subst hok; refine ar_ld (fun v hv hl kx => ?_) hq hF (k0 ls)
    cases v <;> first | (exact lv_lload hx hb hdg hl kx) | (cases hv)
  | lload_n i =>
    dsimp only [ai_iok, ai_I.ins, ai_I.len, ai_I.r1, ai_I.r2, ai_I.rv] at hok; dsimp only [ai_ex, ai_I.ins, ai_I.len, ai_I.r1, ai_I.r2, ai_I.rv] at hq
    subst hok; refine ar_ld (fun v hv hl kx => ?_) hq hF (k0 ls)
    cases v <;> first | (exact lv_lload_n hx hb hdg rfl hl kx) | (cases hv)
  | aload i =>
    dsimp only [ai_iok, ai_I.ins, ai_I.len, ai_I.r1, ai_I.r2, ai_I.rv] at hok; dsimp only [ai_ex, ai_I.ins, ai_I.len, ai_I.r1, ai_I.r2, ai_I.rv] at hq
    subst hok; refine ar_ld (fun v hv hl kx => ?_) hq hF (k0 ls)
    cases v <;> first | (exact lv_aload hx hb hdg hl kx) | (exact lv_aloadN hx hb hdg hl kx) | (cases hv)
  | aload_n i =>
    dsimp only [ai_iok, ai_I.ins, ai_I.len, ai_I.r1, ai_I.r2, ai_I.rv] at hok; dsimp only [ai_ex, ai_I.ins, ai_I.len, ai_I.r1, ai_I.r2, ai_I.rv] at hq
    subst hok; refine ar_ld (fun v hv hl kx => ?_) hq hF (k0 ls)
    cases v <;> first | (exact lv_aload_n hx hb hdg rfl hl kx) | (exact lv_aload_nN hx hb hdg rfl hl kx) | (cases hv)
  | istore i =>
    dsimp only [ai_iok, ai_I.ins, ai_I.len, ai_I.r1, ai_I.r2, ai_I.rv] at hok; dsimp only [ai_ex, ai_I.ins, ai_I.len, ai_I.r1, ai_I.r2, ai_I.rv] at hq
    subst hok; refine ar_sto ai_isI_cat (fun v r lw hv hn hl kx => ?_) hq hF k0
    cases v <;> first | (exact lv_istore hx hb hdg hl hn rfl kx) | (cases hv)
  | istore_n i =>
    dsimp only [ai_iok, ai_I.ins, ai_I.len, ai_I.r1, ai_I.r2, ai_I.rv] at hok; dsimp only [ai_ex, ai_I.ins, ai_I.len, ai_I.r1, ai_I.r2, ai_I.rv] at hq
    subst hok; refine ar_sto ai_isI_cat (fun v r lw hv hn hl kx => ?_) hq hF k0
    cases v <;> first | (exact lv_istore_n hx hb hdg rfl hl hn rfl kx) | (cases hv)
  | astore i =>
    dsimp only [ai_iok, ai_I.ins, ai_I.len, ai_I.r1, ai_I.r2, ai_I.rv] at hok; dsimp only [ai_ex, ai_I.ins, ai_I.len, ai_I.r1, ai_I.r2, ai_I.rv] at hq
    subst hok; refine ar_sto ai_isA_cat (fun v r lw hv hn hl kx => ?_) hq hF k0
    cases v <;> first | (exact lv_astore hx hb hdg hl hn rfl kx) | (exact lv_astoreN hx hb hdg hl hn rfl kx) | (cases hv)
  | astore_n i =>
    dsimp only [ai_iok, ai_I.ins, ai_I.len, ai_I.r1, ai_I.r2, ai_I.rv] at hok; dsimp only [ai_ex, ai_I.ins, ai_I.len, ai_I.r1, ai_I.r2, ai_I.rv] at hq
    subst hok; refine ar_sto ai_isA_cat (fun v r lw hv hn hl kx => ?_) hq hF k0
    cases v <;> first | (exact lv_astore_n hx hb hdg rfl hl hn rfl kx) | (exact lv_astore_nN hx hb hdg rfl hl hn rfl kx) | (cases hv)
  | lstore i =>
    dsimp only [ai_iok, ai_I.ins, ai_I.len, ai_I.r1, ai_I.r2, ai_I.rv] at hok; dsimp only [ai_ex, ai_I.ins, ai_I.len, ai_I.r1, ai_I.r2, ai_I.rv] at hq
    subst hok; exact ar_stoL (fun v r lw hn hl kx => lv_lstore hx hb hdg hl hn rfl kx) hq hF k0
  | lstore_n i =>
    dsimp only [ai_iok, ai_I.ins, ai_I.len, ai_I.r1, ai_I.r2, ai_I.rv] at hok; dsimp only [ai_ex, ai_I.ins, ai_I.len, ai_I.r1, ai_I.r2, ai_I.rv] at hq
    subst hok; exact ar_stoL (fun v r lw hn hl kx => lv_lstore_n hx hb hdg rfl hl hn rfl kx) hq hF k0
  | iinc i k =>
    dsimp only [ai_iok, ai_I.ins, ai_I.len, ai_I.r1, ai_I.r2, ai_I.rv] at hok; dsimp only [ai_ex, ai_I.ins, ai_I.len, ai_I.r1, ai_I.r2, ai_I.rv] at hq
    obtain ⟨rfl, rfl⟩ := hok
    unfold ai_inc at hq
    split at hq
    · rename_i xx kv hlk he
      split at hq
      · rename_i hn
        cases he
        cases hq
        obtain ⟨h1, h2⟩ := hF.at hlk
        obtain ⟨j, hj⟩ := List.getElem?_of_mem (List.mem_map_of_mem (f := fun q : Nat × Value => (q.1, ai_v ad q.2)) (ai_mem_lookup hlk))
        refine lv_iinc (k := j) hx hb hdg hF.1 hj rfl hn rfl (fun ls' hl => k0 ls' rfl ⟨?_, ai_st1_ok hF.2.1 (ai_ok_i _ _), hF.2.2⟩)
        rw [ai_lc_st1]; exact hl
      · cases hq
    · cases hq
  | iadd =>
    dsimp only [ai_iok, ai_I.ins, ai_I.len, ai_I.r1, ai_I.r2, ai_I.rv] at hok; dsimp only [ai_ex, ai_I.ins, ai_I.len, ai_I.r1, ai_I.r2, ai_I.rv] at hq
    subst hok; exact ar_bin (fun a b r k => lv_iadd hx hb hdg k) hq hF (k0 ls)
  | isub =>
    dsimp only [ai_iok, ai_I.ins, ai_I.len, ai_I.r1, ai_I.r2, ai_I.rv] at hok; dsimp only [ai_ex, ai_I.ins, ai_I.len, ai_I.r1, ai_I.r2, ai_I.rv] at hq
    subst hok; exact ar_bin (fun a b r k => lv_isub hx hb hdg k) hq hF (k0 ls)
  | imul =>
    dsimp only [ai_iok, ai_I.ins, ai_I.len, ai_I.r1, ai_I.r2, ai_I.rv] at hok; dsimp only [ai_ex, ai_I.ins, ai_I.len, ai_I.r1, ai_I.r2, ai_I.rv] at hq
    subst hok; exact ar_bin (fun a b r k => lv_imul hx hb hdg k) hq hF (k0 ls)
  | iand =>
    dsimp only [ai_iok, ai_I.ins, ai_I.len, ai_I.r1, ai_I.r2, ai_I.rv] at hok; dsimp only [ai_ex, ai_I.ins, ai_I.len, ai_I.r1, ai_I.r2, ai_I.rv] at hq
    subst hok; exact ar_bin (fun a b r k => lv_iand hx hb hdg k) hq hF (k0 ls)
  | ior =>
    dsimp only [ai_iok, ai_I.ins, ai_I.len, ai_I.r1, ai_I.r2, ai_I.rv] at hok; dsimp only [ai_ex, ai_I.ins, ai_I.len, ai_I.r1, ai_I.r2, ai_I.rv] at hq
    subst hok; exact ar_bin (fun a b r k => lv_ior hx hb hdg k) hq hF (k0 ls)
  | ixor =>
    dsimp only [ai_iok, ai_I.ins, ai_I.len, ai_I.r1, ai_I.r2, ai_I.rv] at hok; dsimp only [ai_ex, ai_I.ins, ai_I.len, ai_I.r1, ai_I.r2, ai_I.rv] at hq
    subst hok; exact ar_bin (fun a b r k => lv_ixor hx hb hdg k) hq hF (k0 ls)
  | ishl =>
    dsimp only [ai_iok, ai_I.ins, ai_I.len, ai_I.r1, ai_I.r2, ai_I.rv] at hok; dsimp only [ai_ex, ai_I.ins, ai_I.len, ai_I.r1, ai_I.r2, ai_I.rv] at hq
    subst hok; exact ar_bin (fun a b r k => lv_ishl hx hb hdg k) hq hF (k0 ls)
  | ishr =>
    dsimp only [ai_iok, ai_I.ins, ai_I.len, ai_I.r1, ai_I.r2, ai_I.rv] at hok; dsimp only [ai_ex, ai_I.ins, ai_I.len, ai_I.r1, ai_I.r2, ai_I.rv] at hq
    subst hok; exact ar_bin (fun a b r k => lv_ishr hx hb hdg k) hq hF (k0 ls)
  | iushr =>
    dsimp only [ai_iok, ai_I.ins, ai_I.len, ai_I.r1, ai_I.r2, ai_I.rv] at hok; dsimp only [ai_ex, ai_I.ins, ai_I.len, ai_I.r1, ai_I.r2, ai_I.rv] at hq
    subst hok; exact ar_bin (fun a b r k => lv_iushr hx hb hdg rfl k) hq hF (k0 ls)
  | ladd =>
    dsimp only [ai_iok, ai_I.ins, ai_I.len, ai_I.r1, ai_I.r2, ai_I.rv] at hok; dsimp only [ai_ex, ai_I.ins, ai_I.len, ai_I.r1, ai_I.r2, ai_I.rv] at hq
    subst hok; exact ar_binL (fun a b r k => lv_ladd hx hb hdg k) hq hF (k0 ls)
  | lsub =>
    dsimp only [ai_iok, ai_I.ins, ai_I.len, ai_I.r1, ai_I.r2, ai_I.rv] at hok; dsimp only [ai_ex, ai_I.ins, ai_I.len, ai_I.r1, ai_I.r2, ai_I.rv] at hq
    subst hok; exact ar_binL (fun a b r k => lv_lsub hx hb hdg k) hq hF (k0 ls)
  | lmul =>
    dsimp only [ai_iok, ai_I.ins, ai_I.len, ai_I.r1, ai_I.r2, ai_I.rv] at hok; dsimp only [ai_ex, ai_I.ins, ai_I.len, ai_I.r1, ai_I.r2, ai_I.rv] at hq
    subst hok; exact ar_binL (fun a b r k => lv_lmul hx hb hdg k) hq hF (k0 ls)
  | land =>
    dsimp only [ai_iok, ai_I.ins, ai_I.len, ai_I.r1, ai_I.r2, ai_I.rv] at hok; dsimp only [ai_ex, ai_I.ins, ai_I.len, ai_I.r1, ai_I.r2, ai_I.rv] at hq
    subst hok; exact ar_binL (fun a b r k => lv_land hx hb hdg k) hq hF (k0 ls)
  | lor =>
    dsimp only [ai_iok, ai_I.ins, ai_I.len, ai_I.r1, ai_I.r2, ai_I.rv] at hok; dsimp only [ai_ex, ai_I.ins, ai_I.len, ai_I.r1, ai_I.r2, ai_I.rv] at hq
    subst hok; exact ar_binL (fun a b r k => lv_lor hx hb hdg k) hq hF (k0 ls)
  | lxor =>
    dsimp only [ai_iok, ai_I.ins, ai_I.len, ai_I.r1, ai_I.r2, ai_I.rv] at hok; dsimp only [ai_ex, ai_I.ins, ai_I.len, ai_I.r1, ai_I.r2, ai_I.rv] at hq
    subst hok; exact ar_binL (fun a b r k => lv_lxor hx hb hdg k) hq hF (k0 ls)
  | lshl =>
    dsimp only [ai_iok, ai_I.ins, ai_I.len, ai_I.r1, ai_I.r2, ai_I.rv] at hok; dsimp only [ai_ex, ai_I.ins, ai_I.len, ai_I.r1, ai_I.r2, ai_I.rv] at hq
    subst hok; exact ar_binS (fun a b r k => lv_lshl hx hb hdg rfl k) hq hF (k0 ls)
  | lshr =>
    dsimp only [ai_iok, ai_I.ins, ai_I.len, ai_I.r1, ai_I.r2, ai_I.rv] at hok; dsimp only [ai_ex, ai_I.ins, ai_I.len, ai_I.r1, ai_I.r2, ai_I.rv] at hq
    subst hok; exact ar_binS (fun a b r k => lv_lshr hx hb hdg rfl k) hq hF (k0 ls)
  | idiv =>
    dsimp only [ai_iok, ai_I.ins, ai_I.len, ai_I.r1, ai_I.r2, ai_I.rv] at hok; dsimp only [ai_ex, ai_I.ins, ai_I.len, ai_I.r1, ai_I.r2, ai_I.rv] at hq
    subst hok; exact ar_div (fun a b r hne k => lv_idiv hx hb hdg hne k) hq hF (k0 ls)
  | irem =>
    dsimp only [ai_iok, ai_I.ins, ai_I.len, ai_I.r1, ai_I.r2, ai_I.rv] at hok; dsimp only [ai_ex, ai_I.ins, ai_I.len, ai_I.r1, ai_I.r2, ai_I.rv] at hq
    subst hok; exact ar_div (fun a b r hne k => lv_irem hx hb hdg hne k) hq hF (k0 ls)
  | i2b =>
    dsimp only [ai_iok, ai_I.ins, ai_I.len, ai_I.r1, ai_I.r2, ai_I.rv] at hok; dsimp only [ai_ex, ai_I.ins, ai_I.len, ai_I.r1, ai_I.r2, ai_I.rv] at hq
    subst hok; exact ar_un (fun a r k => lv_i2b hx hb hdg rfl k) hq hF (k0 ls)
  | i2c =>
    dsimp only [ai_iok, ai_I.ins, ai_I.len, ai_I.r1, ai_I.r2, ai_I.rv] at hok; dsimp only [ai_ex, ai_I.ins, ai_I.len, ai_I.r1, ai_I.r2, ai_I.rv] at hq
    subst hok; exact ar_un (fun a r k => lv_i2c hx hb hdg rfl k) hq hF (k0 ls)
  | i2l =>
    dsimp only [ai_iok, ai_I.ins, ai_I.len, ai_I.r1, ai_I.r2, ai_I.rv] at hok; dsimp only [ai_ex, ai_I.ins, ai_I.len, ai_I.r1, ai_I.r2, ai_I.rv] at hq
    subst hok; split at hq
    · cases hq; exact lv_i2l hx hb hdg rfl (k0 ls rfl (hF.st (ai_cons (ai_ok_l _ _) (ai_tl hF.2.2))))
    · cases hq
  | l2i =>
    dsimp only [ai_iok, ai_I.ins, ai_I.len, ai_I.r1, ai_I.r2, ai_I.rv] at hok; dsimp only [ai_ex, ai_I.ins, ai_I.len, ai_I.r1, ai_I.r2, ai_I.rv] at hq
    subst hok; split at hq
    · cases hq; exact lv_l2i hx hb hdg rfl (k0 ls rfl (hF.st (ai_cons (ai_ok_i _ _) (ai_tl hF.2.2))))
    · cases hq
  | lcmp =>
    dsimp only [ai_iok, ai_I.ins, ai_I.len, ai_I.r1, ai_I.r2, ai_I.rv] at hok; dsimp only [ai_ex, ai_I.ins, ai_I.len, ai_I.r1, ai_I.r2, ai_I.rv] at hq
    subst hok; split at hq
    · cases hq; exact W.lcmp hx hb hdg (k0 ls rfl (hF.st (ai_cons (ai_ok_i _ _) (ai_tl (ai_tl hF.2.2)))))
    · cases hq
  | dup =>
    dsimp only [ai_iok, ai_I.ins, ai_I.len, ai_I.r1, ai_I.r2, ai_I.rv] at hok; dsimp only [ai_ex, ai_I.ins, ai_I.len, ai_I.r1, ai_I.r2, ai_I.rv] at hq
    subst hok; split at hq
    · split at hq
      · rename_i hcat; cases hq; exact lv_dup hx hb hdg ((ai_cat ad _).trans hcat) (k0 ls rfl (hF.st (ai_cons (ai_hd hF.2.2) hF.2.2)))
      · cases hq
    · cases hq
  | pop =>
    dsimp only [ai_iok, ai_I.ins, ai_I.len, ai_I.r1, ai_I.r2, ai_I.rv] at hok; dsimp only [ai_ex, ai_I.ins, ai_I.len, ai_I.r1, ai_I.r2, ai_I.rv] at hq
    subst hok; split at hq
    · split at hq
      · rename_i hcat; cases hq; exact lv_pop hx hb hdg ((ai_cat ad _).trans hcat) (k0 ls rfl (hF.st (ai_tl hF.2.2)))
      · cases hq
    · cases hq
  | dup2 =>
    dsimp only [ai_iok, ai_I.ins, ai_I.len, ai_I.r1, ai_I.r2, ai_I.rv] at hok; dsimp only [ai_ex, ai_I.ins, ai_I.len, ai_I.r1, ai_I.r2, ai_I.rv] at hq
    subst hok; split at hq
    · split at hq
      · rename_i hcat; cases hq; exact lv_dup2_11 hx hb hdg ((ai_cat ad _).trans hcat.1) ((ai_cat ad _).trans hcat.2) (k0 ls rfl (hF.st (ai_cons (ai_hd hF.2.2) (ai_cons (ai_hd (ai_tl hF.2.2)) hF.2.2))))
      · cases hq
    · cases hq
  | dup_x1 =>
    dsimp only [ai_iok, ai_I.ins, ai_I.len, ai_I.r1, ai_I.r2, ai_I.rv] at hok; dsimp only [ai_ex, ai_I.ins, ai_I.len, ai_I.r1, ai_I.r2, ai_I.rv] at hq
    subst hok; split at hq
    · split at hq
      · rename_i hcat; cases hq; exact lv_dup_x1 hx hb hdg ((ai_cat ad _).trans hcat.1) ((ai_cat ad _).trans hcat.2) (k0 ls rfl (hF.st (ai_cons (ai_hd hF.2.2) (ai_cons (ai_hd (ai_tl hF.2.2)) (ai_cons (ai_hd hF.2.2) (ai_tl (ai_tl hF.2.2)))))))
      · cases hq
    · cases hq
  | ifCond k off =>
    dsimp only [ai_iok, ai_I.ins, ai_I.len, ai_I.r1, ai_I.r2, ai_I.rv] at hok; dsimp only [ai_ex, ai_I.ins, ai_I.len, ai_I.r1, ai_I.r2, ai_I.rv] at hq
    obtain ⟨rfl, ho⟩ := hok
    cases k with
    | eq => exact ar_if (fun a r kt kf => lv_if_eq hx hb hdg ho (fun hh => kt (by simpa using hh)) (fun hh => kf (by simpa using hh))) hq hF (k0 ls)
    | ne => exact ar_if (fun a r kt kf => lv_if_ne hx hb hdg ho (fun hh => kt (by simpa using hh)) (fun hh => kf (by simpa using hh))) hq hF (k0 ls)
    | lt => exact ar_if (fun a r kt kf => lv_if_lt hx hb hdg ho (fun hh => kt (by simpa using hh)) (fun hh => kf (by simpa using hh))) hq hF (k0 ls)
    | ge => exact ar_if (fun a r kt kf => lv_if_ge hx hb hdg ho (fun hh => kt (by simpa using hh)) (fun hh => kf (by simpa using hh))) hq hF (k0 ls)
    | gt => exact ar_if (fun a r kt kf => lv_if_gt hx hb hdg ho (fun hh => kt (by simpa using hh)) (fun hh => kf (by simpa using hh))) hq hF (k0 ls)
    | le => exact ar_if (fun a r kt kf => lv_if_le hx hb hdg ho (fun hh => kt (by simpa using hh)) (fun hh => kf (by simpa using hh))) hq hF (k0 ls)
  | if_icmp k off =>
    dsimp only [ai_iok, ai_I.ins, ai_I.len, ai_I.r1, ai_I.r2, ai_I.rv] at hok; dsimp only [ai_ex, ai_I.ins, ai_I.len, ai_I.r1, ai_I.r2, ai_I.rv] at hq
    obtain ⟨rfl, ho⟩ := hok
    cases k with
    | eq => exact ar_cmp (fun a y r kt kf => lv_icmp_eq hx hb hdg ho (fun hh => kt (by simpa using hh)) (fun hh => kf (by simpa using hh))) hq hF (k0 ls)
    | ne => exact ar_cmp (fun a y r kt kf => lv_icmp_ne hx hb hdg ho (fun hh => kt (by simpa using hh)) (fun hh => kf (by simpa using hh))) hq hF (k0 ls)
    | lt => exact ar_cmp (fun a y r kt kf => lv_icmp_lt hx hb hdg ho (fun hh => kt (by simpa using hh)) (fun hh => kf (by simpa using hh))) hq hF (k0 ls)
    | ge => exact ar_cmp (fun a y r kt kf => lv_icmp_ge hx hb hdg ho (fun hh => kt (by simpa using hh)) (fun hh => kf (by simpa using hh))) hq hF (k0 ls)
    | gt => exact ar_cmp (fun a y r kt kf => lv_icmp_gt hx hb hdg ho (fun hh => kt (by simpa using hh)) (fun hh => kf (by simpa using hh))) hq hF (k0 ls)
    | le => exact ar_cmp (fun a y r kt kf => lv_icmp_le hx hb hdg ho (fun hh => kt (by simpa using hh)) (fun hh => kf (by simpa using hh))) hq hF (k0 ls)
  | ifnull off =>
    dsimp only [ai_iok, ai_I.ins, ai_I.len, ai_I.r1, ai_I.r2, ai_I.rv] at hok; dsimp only [ai_ex, ai_I.ins, ai_I.len, ai_I.r1, ai_I.r2, ai_I.rv] at hq
    obtain ⟨rfl, ho⟩ := hok; split at hq
    · cases hq; exact lv_ifnullN hx hb hdg ho (k0 ls rfl (hF.st (ai_tl hF.2.2)))
    · cases hq; exact lv_ifnull hx hb hdg (k0 ls rfl (hF.st (ai_tl hF.2.2)))
    · cases hq
  | ifnonnull off =>
    dsimp only [ai_iok, ai_I.ins, ai_I.len, ai_I.r1, ai_I.r2, ai_I.rv] at hok; dsimp only [ai_ex, ai_I.ins, ai_I.len, ai_I.r1, ai_I.r2, ai_I.rv] at hq
    obtain ⟨rfl, ho⟩ := hok; split at hq
    · cases hq; exact lv_ifnonnullN hx hb hdg (k0 ls rfl (hF.st (ai_tl hF.2.2)))
    · cases hq; exact lv_ifnonnull hx hb hdg ho (k0 ls rfl (hF.st (ai_tl hF.2.2)))
    · cases hq
  | goto off =>
    dsimp only [ai_iok, ai_I.ins, ai_I.len, ai_I.r1, ai_I.r2, ai_I.rv] at hok; dsimp only [ai_ex, ai_I.ins, ai_I.len, ai_I.r1, ai_I.r2, ai_I.rv] at hq
    obtain ⟨rfl, ho⟩ := hok; cases hq; exact lv_goto hx hb hdg ho (k0 ls rfl hF)
  | tableswitch dd lo hi offs =>
    dsimp only [ai_iok, ai_I.ins, ai_I.len, ai_I.r1, ai_I.r2, ai_I.rv] at hok; dsimp only [ai_ex, ai_I.ins, ai_I.len, ai_I.r1, ai_I.r2, ai_I.rv] at hq
    unfold ai_sw at hq
    split at hq
    · split at hq
      · rename_i hc
        split at hq
        · rename_i h0
          cases hq
          exact lv_tableOut hx hb hdg hc (Int.toNat_of_nonneg h0).symm (k0 ls rfl (hF.st (ai_tl hF.2.2)))
        · cases hq
      · rename_i hc
        split at hq
        · rename_i off ho
          split at hq
          · rename_i h0
            cases hq
            exact lv_tableIn hx hb hdg (fun z => hc (Or.inl z)) (fun z => hc (Or.inr z)) ho (Int.toNat_of_nonneg h0).symm (k0 ls rfl (hF.st (ai_tl hF.2.2)))
          · cases hq
        · cases hq
    · cases hq
  | getfield idx =>
    dsimp only [ai_iok, ai_I.ins, ai_I.len, ai_I.r1, ai_I.r2, ai_I.rv] at hok; dsimp only [ai_ex, ai_I.ins, ai_I.len, ai_I.r1, ai_I.r2, ai_I.rv] at hq
    obtain ⟨rfl, hci, C, T, N, hc, hk, hl, -⟩ := hok; exact ar_get hx hb hts hCK hown hK hw hci hc hk hl hdg hq hF (k0 ls)
  | putfield idx =>
    dsimp only [ai_iok, ai_I.ins, ai_I.len, ai_I.r1, ai_I.r2, ai_I.rv] at hok; dsimp only [ai_ex, ai_I.ins, ai_I.len, ai_I.r1, ai_I.r2, ai_I.rv] at hq
    obtain ⟨rfl, hci, C, T, N, hc, hk, hl, hfin⟩ := hok; exact ar_put hx hb hts hCK hown hK hw hS0 hA hci hc hk hl (hfin _ rfl) hdg hq hF k1
  | new idx =>
    dsimp only [ai_iok, ai_I.ins, ai_I.len, ai_I.r1, ai_I.r2, ai_I.rv] at hok; dsimp only [ai_ex, ai_I.ins, ai_I.len, ai_I.r1, ai_I.r2, ai_I.rv] at hq
    obtain ⟨rfl, hok⟩ := hok
    split at hq
    · cases hq
    · rename_i hne
      rcases hok with h9 | ⟨hci, C, T, hc, h1, h2, h3⟩
      · exact absurd h9 hne
      · have hx' : ∃ c9 : ai_C, x = .inr (.inr c9) ∧ c9.2.1 = r2 := by unfold ai_newo ai_nxE at hq; cases hq; exact ⟨_, rfl, rfl⟩
        obtain ⟨c9, hx9, hN⟩ := hx'
        obtain ⟨g1, g2⟩ := kr c9 hx9
        exact ar_new hx hb hts hCK hown hK hw hS0 hn0 hci hc h1 h2 h3 g1 (by rw [← hN]; exact g2) hdg hq hF (fun ad' H1 => k2 ad' H1 r2)
  | newarray t =>
    dsimp only [ai_iok, ai_I.ins, ai_I.len, ai_I.r1, ai_I.r2, ai_I.rv] at hok; dsimp only [ai_ex, ai_I.ins, ai_I.len, ai_I.r1, ai_I.r2, ai_I.rv] at hq
    obtain ⟨rfl, h1, h2, h3⟩ := hok
    refine ar_newa hx hb hw hS0 hn0 h1 h2 (hts _ h3) (fun r n hst => ?_) hdg hq hF k2
    subst hst
    unfold ai_newa at hq
    dsimp only at hq
    split at hq
    · unfold ai_nxE at hq
      cases hq
      exact kr _ rfl
    · cases hq
  | anewarray idx =>
    dsimp only [ai_iok, ai_I.ins, ai_I.len, ai_I.r1, ai_I.r2, ai_I.rv] at hok; dsimp only [ai_ex, ai_I.ins, ai_I.len, ai_I.r1, ai_I.r2, ai_I.rv] at hq
    obtain ⟨rfl, h1, h2, h3, h4⟩ := hok
    refine ar_anew hx hb hown hw hS0 hn0 h1 h2 (hts _ h3) (hao _ h4) (fun r n hst => ?_) hdg hq hF k2
    subst hst
    unfold ai_newa at hq
    dsimp only at hq
    split at hq
    · unfold ai_nxE at hq
      cases hq
      exact kr _ rfl
    · cases hq
  | iaload =>
    dsimp only [ai_iok, ai_I.ins, ai_I.len, ai_I.r1, ai_I.r2, ai_I.rv] at hok; dsimp only [ai_ex, ai_I.ins, ai_I.len, ai_I.r1, ai_I.r2, ai_I.rv] at hq
    subst hok
    refine ar_ald (fun t ht => by simp at ht; omega) hw (fun t a n j cell v r ht g1 g2 g3 g4 g5 kx => ?_) hq hF (k0 ls)
    simp at ht
    subst ht
    exact W.iald hx hb g1 g2 g3 g4 g5 rfl rfl hdg kx
  | laload =>
    dsimp only [ai_iok, ai_I.ins, ai_I.len, ai_I.r1, ai_I.r2, ai_I.rv] at hok; dsimp only [ai_ex, ai_I.ins, ai_I.len, ai_I.r1, ai_I.r2, ai_I.rv] at hq
    subst hok
    refine ar_ald (fun t ht => by simp at ht; omega) hw (fun t a n j cell v r ht g1 g2 g3 g4 g5 kx => ?_) hq hF (k0 ls)
    simp at ht
    subst ht
    exact W.lald hx hb g1 g2 g3 g4 g5 rfl rfl hdg kx
  | baload =>
    dsimp only [ai_iok, ai_I.ins, ai_I.len, ai_I.r1, ai_I.r2, ai_I.rv] at hok; dsimp only [ai_ex, ai_I.ins, ai_I.len, ai_I.r1, ai_I.r2, ai_I.rv] at hq
    subst hok
    refine ar_ald (fun t ht => by simp at ht; omega) hw (fun t a n j cell v r ht g1 g2 g3 g4 g5 kx => ?_) hq hF (k0 ls)
    simp at ht
    rcases ht with rfl | rfl
    · exact W.bald hx hb g1 g2 g3 g4 g5 rfl rfl hdg kx
    · exact W.zald hx hb g1 g2 g3 g4 g5 rfl rfl hdg kx
  | aaload =>
    dsimp only [ai_iok, ai_I.ins, ai_I.len, ai_I.r1, ai_I.r2, ai_I.rv] at hok; dsimp only [ai_ex, ai_I.ins, ai_I.len, ai_I.r1, ai_I.r2, ai_I.rv] at hq
    subst hok
    refine ar_ald (fun t ht => by simp at ht; omega) hw (fun t a n j cell v r ht g1 g2 g3 g4 g5 kx => ?_) hq hF (k0 ls)
    simp at ht
    have hty : ai_ty P.rc t = .object (P.rc t) := by unfold ai_ty; rw [if_neg (by omega), if_neg (by omega), if_neg (by omega), if_neg (by omega), if_neg (by omega)]
    rw [hty] at g2
    exact W.aald hx hb g1 g2 rfl g3 g4 g5 rfl rfl hdg kx
  | iastore =>
    dsimp only [ai_iok, ai_I.ins, ai_I.len, ai_I.r1, ai_I.r2, ai_I.rv] at hok; dsimp only [ai_ex, ai_I.ins, ai_I.len, ai_I.r1, ai_I.r2, ai_I.rv] at hq
    subst hok
    refine ar_ast (fun t ht => by simp at ht; omega) (fun t v w hv n hn => ?_) hw hS0 hA (fun t a n j cell v w r ht hv hvo g1 g2 g3 g4 g5 kx => ?_) hq hF k1
    · unfold ai_narI at hv; split at hv <;> first | (cases hv; exact ai_ok_i _ _) | (cases hv; exact ai_ok_l _ _) | (split at hv <;> (cases hv; exact ai_ok_i _ _)) | (cases hv)
    · simp at ht
      subst ht
      unfold ai_narI at hv
      split at hv
      · cases hv; exact W.iast hx hb g1 g2 (by rw [g3]; exact fun z => by cases z) g5 rfl rfl hdg kx
      · cases hv
  | lastore =>
    dsimp only [ai_iok, ai_I.ins, ai_I.len, ai_I.r1, ai_I.r2, ai_I.rv] at hok; dsimp only [ai_ex, ai_I.ins, ai_I.len, ai_I.r1, ai_I.r2, ai_I.rv] at hq
    subst hok
    refine ar_ast (fun t ht => by simp at ht; omega) (fun t v w hv n hn => ?_) hw hS0 hA (fun t a n j cell v w r ht hv hvo g1 g2 g3 g4 g5 kx => ?_) hq hF k1
    · unfold ai_narJ at hv; split at hv <;> first | (cases hv; exact ai_ok_i _ _) | (cases hv; exact ai_ok_l _ _) | (split at hv <;> (cases hv; exact ai_ok_i _ _)) | (cases hv)
    · simp at ht
      subst ht
      unfold ai_narJ at hv
      split at hv
      · cases hv; exact W.last hx hb g1 g2 (by rw [g3]; exact fun z => by cases z) g5 rfl rfl hdg kx
      · cases hv
  | bastore =>
    dsimp only [ai_iok, ai_I.ins, ai_I.len, ai_I.r1, ai_I.r2, ai_I.rv] at hok; dsimp only [ai_ex, ai_I.ins, ai_I.len, ai_I.r1, ai_I.r2, ai_I.rv] at hq
    subst hok
    refine ar_ast (fun t ht => by simp at ht; omega) (fun t v w hv n hn => ?_) hw hS0 hA (fun t a n j cell v w r ht hv hvo g1 g2 g3 g4 g5 kx => ?_) hq hF k1
    · unfold ai_narB at hv; split at hv <;> first | (cases hv; exact ai_ok_i _ _) | (cases hv; exact ai_ok_l _ _) | (split at hv <;> (cases hv; exact ai_ok_i _ _)) | (cases hv)
    · simp at ht
      unfold ai_narB at hv
      split at hv
      · rcases ht with rfl | rfl
        · rw [if_pos rfl] at hv; cases hv; exact W.bast hx hb g1 g2 (by rw [g3]; exact fun z => by cases z) g5 rfl rfl hdg kx
        · rw [if_neg (by decide)] at hv; cases hv; exact W.zast hx hb g1 g2 (by rw [g3]; exact fun z => by cases z) g5 rfl rfl hdg kx
      · cases hv
  | arraylength =>
    dsimp only [ai_iok, ai_I.ins, ai_I.len, ai_I.r1, ai_I.r2, ai_I.rv] at hok; dsimp only [ai_ex, ai_I.ins, ai_I.len, ai_I.r1, ai_I.r2, ai_I.rv] at hq
    subst hok; exact ar_len hx hb hw hdg hq hF (k0 ls)
  | checkcast idx =>
    dsimp only [ai_iok, ai_I.ins, ai_I.len, ai_I.r1, ai_I.r2, ai_I.rv] at hok; dsimp only [ai_ex, ai_I.ins, ai_I.len, ai_I.r1, ai_I.r2, ai_I.rv] at hq
    obtain ⟨rfl, hci, C, T, N, hc, hl⟩ := hok
    split at hq
    · cases hq; exact lv_castN hx hb hdg (k0 ls rfl (hF.st (ai_cons (ai_ok_n _) (ai_tl hF.2.2))))
    · split at hq
      · rename_i a r t n f ha
        split at hq
        · rename_i ht
          cases hq
          subst ht
          obtain ⟨r0, h1, h2, cell, q1, q2, q3, q4⟩ := (hw.1 _ _ ha).1 hci
          obtain ⟨-, hCA⟩ := hK.1 _ _ hc
          refine va_castS hx hb hown (hts _ hl) hCA ⟨cell, q1, by rw [q3]; rfl, by rw [q2]; exact hCA.1⟩ hdg (k0 ls rfl (hF.st hF.2.2))
        · cases hq
      · cases hq
    · cases hq
  | invokespecial idx =>
    dsimp only [ai_iok, ai_I.ins, ai_I.len, ai_I.r1, ai_I.r2, ai_I.rv] at hok; dsimp only [ai_ex, ai_I.ins, ai_I.len, ai_I.r1, ai_I.r2, ai_I.rv] at hq
    obtain ⟨rfl, hok⟩ := hok
    split at hq
    · rename_i h5
      obtain ⟨h1, h2, h3⟩ := hok h5
      split at hq
      · split at hq
        · rename_i a r hcd
          cases hq
          exact W.objInit hx hb hown (hts _ h1) (hts _ h2) (hts _ h3) rfl (by rw [hml]; exact hF.1.1) rfl hdg (by omega) (by rw [ai_wt_map]; show 2 * 0 + _ + 12 ≤ _; omega) (k0 ls rfl (hF.st (ai_tl hF.2.2)))
        · cases hq
      · cases hq
    · split at hq
      case h_2 => cases hq
      unfold ai_inv at hq
      split at hq
      · cases hq
      · split at hq
        · split at hq
          · split at hq
            · split at hq <;> cases hq
            · cases hq
          · cases hq
        · cases hq
  | invokestatic idx =>
    dsimp only [ai_iok, ai_I.ins, ai_I.len, ai_I.r1, ai_I.r2, ai_I.rv] at hok; dsimp only [ai_ex, ai_I.ins, ai_I.len, ai_I.r1, ai_I.r2, ai_I.rv] at hq
    obtain ⟨rfl, hok⟩ := hok
    split at hq
    · rename_i h5
      obtain ⟨h1, h2, h3, h4⟩ := hok.1 h5
      exact ar_copy hx hb hml hown (hts _ h1) (hts _ h2) (hts _ h3) (hts _ h4) hw hS0 hA hRf hRl hdg hq hF k1
    split at hq
    · rename_i h52
      obtain ⟨hi, hm1, hm2, hm3⟩ := hok.2 h52
      have hml2 : c.maxLocals = ls.size := hml.trans hF.1.1.symm
      unfold ai_math at hq
      split at hq
      · split at hq
        · rename_i hcd
          split at hq
          · rename_i hk
            obtain ⟨m1, m2, m3⟩ := hm1 hk
            cases hq
            exact va_mmin hx hb hml2 hown (hts _ m1) (hts _ m2) (hts _ hi) (hts _ m3) (by omega) (by rw [ai_wt_map]; omega) (by simp only [ai_app] at hr1; omega) (by simp only [ai_app] at hr2; omega) hdg (k0 ls rfl (hF.st (ai_cons (ai_ok_i _ _) (ai_tl (ai_tl hF.2.2)))))
          · split at hq
            · rename_i hk
              obtain ⟨m1, m2, m3⟩ := hm2 hk
              cases hq
              exact va_mmax hx hb hml2 hown (hts _ m1) (hts _ m2) (hts _ hi) (hts _ m3) (by omega) (by rw [ai_wt_map]; omega) (by simp only [ai_app] at hr1; omega) (by simp only [ai_app] at hr2; omega) hdg (k0 ls rfl (hF.st (ai_cons (ai_ok_i _ _) (ai_tl (ai_tl hF.2.2)))))
            · cases hq
        · cases hq
      · split at hq
        · rename_i hcd
          obtain ⟨m1, m2, m3⟩ := hm3 hcd.2.2
          cases hq
          exact va_mmax_long hx hb hml2 hown (hts _ m1) (hts _ m2) (hts _ hi) (hts _ m3) (by omega) (by rw [ai_wt_map]; omega) (by simp only [ai_app] at hr1; omega) (by simp only [ai_app] at hr2; omega) hdg (k0 ls rfl (hF.st (ai_cons (ai_ok_l _ _) (ai_tl (ai_tl hF.2.2)))))
        · cases hq
      · cases hq
    unfold ai_inv at hq
    split at hq
    · cases hq
    · split at hq
      · split at hq
        · split at hq
          · split at hq <;> cases hq
          · cases hq
        · cases hq
      · cases hq
  | aastore =>
    dsimp only [ai_iok, ai_I.ins, ai_I.len, ai_I.r1, ai_I.r2, ai_I.rv] at hok; dsimp only [ai_ex, ai_I.ins, ai_I.len, ai_I.r1, ai_I.r2, ai_I.rv] at hq
    subst hok
    exact ar_aast hx hb hK hnw hac hw hS0 hA hdg hq hF k1
  | if_acmp k off =>
    dsimp only [ai_iok, ai_I.ins, ai_I.len, ai_I.r1, ai_I.r2, ai_I.rv] at hok; dsimp only [ai_ex, ai_I.ins, ai_I.len, ai_I.r1, ai_I.r2, ai_I.rv] at hq
    obtain ⟨rfl, ho⟩ := hok
    cases k with
    | eq => exact ar_acmp hw (fun ru rv r kt kf => lv_acmp_eq hx hb hdg ho (fun hh => kt (by simpa using hh)) (fun hh => kf (by simpa using hh))) hq hF (k0 ls)
    | ne => exact ar_acmp hw (fun ru rv r kt kf => lv_acmp_ne hx hb hdg ho (fun hh => kt (by simpa using hh)) (fun hh => kf (by simpa using hh))) hq hF (k0 ls)
  | invokevirtual idx =>
    dsimp only [ai_ex, ai_I.ins] at hq
    unfold ai_inv at hq
    split at hq
    · cases hq
    · split at hq
      · split at hq
        · split at hq
          · split at hq <;> cases hq
          · cases hq
        · cases hq
      · cases hq
  | ireturn =>
    dsimp only [ai_ex, ai_I.ins] at hq
    unfold ai_ret at hq
    split at hq
    · split at hq <;> cases hq
    · cases hq
  | lreturn =>
    dsimp only [ai_ex, ai_I.ins] at hq
    unfold ai_ret at hq
    split at hq
    · split at hq <;> cases hq
    · cases hq
  | areturn =>
    dsimp only [ai_ex, ai_I.ins] at hq
    unfold ai_ret at hq
    split at hq
    · split at hq <;> cases hq
    · cases hq
  | return_ =>
    dsimp only [ai_ex, ai_I.ins] at hq
    split at hq <;> cases hq
  | _ =>
    (first | (cases hq; done) | (simp [ai_ex] at hq; done))
end AIS
end
section
/-! the run of a method, and what it says of the machine -/
def ai_exn (t : Nat) : String := if t = 1 then "java/lang/IllegalArgumentException" else "java/lang/IllegalStateException"
def ai_find (hs : List (Nat × Nat × Nat × Nat × Nat)) (pc t : Nat) : Option Nat := match hs with
  | [] => none
  | q :: r => if decide (q.1 ≤ pc) && decide (pc < q.2.1) && decide (q.2.2.2.2 = t) then some q.2.2.1 else ai_find r pc t
/-- the cell of an exception -/
def ai_xc : ai_C := (200, 6, fun _ => Value.null)
/-- behind a call -/
def ai_post (thr : Bool) (hs : List (Nat × Nat × Nat × Nat × Nat)) (pc : Nat) (rest : List Value) (r : Option ((Option Value ⊕ Nat) × ai_H)) (k : Nat → List Value → ai_H → Option ((Option Value ⊕ Nat) × ai_H)) : Option ((Option Value ⊕ Nat) × ai_H) := match r with
  | none => none
  | some (.inl v, h1) => k (pc + 3) (v.toList ++ rest) h1
  | some (.inr t, h1) => if thr then (match ai_find hs pc t with
    | some tg => k tg [.ref h1.length] (h1 ++ [ai_xc])
    | none => if hs.isEmpty then some (.inr t, h1) else none) else none
def ai_thr (q : ai_I) (M : ai_M) : Bool := match q.ins with
  | .invokespecial _ => false
  | _ => M.hs.isEmpty
def ai_run (P : ai_P) : Nat → Nat → Nat → Nat → Nat → ai_L → List Value → ai_H → Option ((Option Value ⊕ Nat) × ai_H)
  | 0, _, _, _, _, _, _, _ => none
  | n + 1, mid, d, w, pc, lv, st, h => match P.tab mid pc with
    | none => none
    | some q => match ai_ex P d w (P.mth mid).maxL (P.mth mid).ret q pc lv st h with
      | none => none
      | some (.inl (pc', lv', st', x)) => ai_run P n mid d w pc' lv' st' (ai_app h x)
      | some (.inr (.inl (mid', as, rest))) =>
        if d = 0 ∨ w < 8 + ((P.mth mid').maxL + 11) ∨ 8 < ai_wt rest ∨ (P.mth mid').maxL < ai_wt as then none
        else ai_post (ai_thr q (P.mth mid')) (P.mth mid).hs pc rest (ai_run P n mid' (d - 1) (w - (8 + ((P.mth mid').maxL + 11))) 0 (lv_args 0 as) [] h) (fun pc' st' h' => ai_run P n mid d w pc' lv st' h')
      | some (.inr (.inr (.inl v))) => some (.inl v, h)
      | some (.inr (.inr (.inr t))) => if (P.mth mid).hs.isEmpty ∧ 5 < d ∧ ai_wt st + 81 ≤ w then some (.inr t, h) else none
theorem ai_app_mono (h : ai_H) (x : ai_E) : h.length ≤ (ai_app h x).length ∧ ai_sz h ≤ ai_sz (ai_app h x) := by
  rcases x with _ | ⟨k, f⟩ | c
  · exact ⟨Nat.le_refl _, Nat.le_refl _⟩
  · simp only [ai_app]
    cases hk : h[k]? with
    | none => exact ⟨Nat.le_refl _, Nat.le_refl _⟩
    | some c =>
      have hkl := (List.getElem?_eq_some_iff.mp hk).1
      refine ⟨by simp, Nat.le_of_eq ?_⟩
      simp only [ai_sz, List.map_set]
      congr 1
      apply List.ext_getElem?
      intro i
      by_cases hik : i = k
      · subst hik
        rw [List.getElem?_set_self (by simpa using hkl), List.getElem?_map, hk]
        rfl
      · rw [List.getElem?_set_ne (Ne.symm hik)]
  · simp [ai_app, ai_sz]
theorem ai_mono {P : ai_P} : ∀ (n mid d w pc : Nat) (lv : ai_L) (st : List Value) (h : ai_H) (o : Option Value ⊕ Nat) (h' : ai_H), ai_run P n mid d w pc lv st h = some (o, h') → h.length ≤ h'.length ∧ ai_sz h ≤ ai_sz h'
  | 0, _, _, _, _, _, _, _, _, _, hr => by cases hr
  | n + 1, mid, d, w, pc, lv, st, h, o, h', hr => by
    unfold ai_run at hr
    split at hr
    · cases hr
    · split at hr
      · cases hr
      · rename_i x _
        have h1 := ai_app_mono h x
        have h2 := ai_mono n _ _ _ _ _ _ _ _ _ hr
        exact ⟨Nat.le_trans h1.1 h2.1, Nat.le_trans h1.2 h2.2⟩
      · split at hr
        · cases hr
        · unfold ai_post at hr
          split at hr
          · cases hr
          · rename_i hc
            have h1 := ai_mono n _ _ _ _ _ _ _ _ _ hc
            have h2 := ai_mono n _ _ _ _ _ _ _ _ _ hr
            exact ⟨Nat.le_trans h1.1 h2.1, Nat.le_trans h1.2 h2.2⟩
          · rename_i t h1' hc
            have h1 := ai_mono n _ _ _ _ _ _ _ _ _ hc
            split at hr
            case isFalse => cases hr
            split at hr
            · have h2 := ai_mono n _ _ _ _ _ _ _ _ _ hr
              have h3 := ai_app_mono h1' (.inr (.inr ai_xc))
              exact ⟨Nat.le_trans h1.1 (Nat.le_trans h3.1 h2.1), Nat.le_trans h1.2 (Nat.le_trans h3.2 h2.2)⟩
            · split at hr
              · cases hr; exact h1
              · cases hr
      · cases hr; exact ⟨Nat.le_refl _, Nat.le_refl _⟩
      · split at hr
        · cases hr; exact ⟨Nat.le_refl _, Nat.le_refl _⟩
        · cases hr
/-- words that stay under warmer tables, though no list of good words may hold them -/
def ai_nwk (w : Cond) : Prop := (∃ a i b n d h, w = .fieldLinkNest a i b n d h) ∨ (∃ a i x h, w = .methodLinkNest a i x h) ∨ (∃ C T, w = .castable C T) ∨ ∃ x, w = .declares x
theorem ai_nw_warm {w : Cond} (hk : ai_nwk w) {s U : State} (hW : s.WarmedH U.vm) (h : va_Nw w s) : va_Nw w U := by
  rcases hk with ⟨a, i, b, n, d, hh, rfl⟩ | ⟨a, i, x, hh, rfl⟩ | ⟨C, T, rfl⟩ | ⟨x, rfl⟩
  · exact h.warmF hW
  · exact h.warmM hW
  · exact h.warmC hW
  · exact h.warmD hW
/-- what is given: the tables' lists, the program, the world's fixed parts -/
def ai_env (cl : List vw_C) (D : va_G) (sl : ai_SL) (ao : List String) (nw : List Cond) (nc : List (String × String)) (ad : Nat → Nat) (A : Nat → Prop) (U : State) (H : Heap) : Prop :=
  va_K D cl [] U ∧ (∀ z ∈ sl, va_Z z.1 z.2.1 z.2.2.1 (ai_v ad z.2.2.2) A U H) ∧ (∀ C ∈ ao, va_AO C U) ∧ (∀ w ∈ nw, va_Nw w U) ∧ vx_Zq Bundle.tN "UNASSIGNED_STACK" Bundle.steD A U H ∧ vx_Zq Bundle.tN "SUPPRESSED_SENTINEL" Bundle.listD A U H ∧ ∀ z ∈ nc, va_Nc z.1 z.2 U
theorem ai_env.to {cl : List vw_C} {D : va_G} {sl : ai_SL} {ao : List String} {nw : List Cond} {nc : List (String × String)} {ad ad' : Nat → Nat} {A : Nat → Prop} {s U : State} {H H1 : Heap} (hE : ai_env cl D sl ao nw nc ad A s H) (hnk : ∀ w ∈ nw, ai_nwk w) {n : Nat} (hso : ∀ z ∈ sl, ai_ok n z.2.2.2) (he : ∀ k, k < n → ad' k = ad k) (hW : s.WarmedH U.vm) (hq : ∀ a : Nat, a < H.size → ¬ A a → H1[a]? = H[a]?) : ai_env cl D sl ao nw nc ad' A U H1 := by
  obtain ⟨h1, h2, h3, h4, h5, h6, h7⟩ := hE
  refine ⟨h1.moved hW.alike, fun z hz => ?_, fun C hC => (h3 C hC).moved hW.alike, fun w hw => ai_nw_warm (hnk w hw) hW (h4 w hw), (h5.moved hW.alike).kept hq, (h6.moved hW.alike).kept hq, fun z hz => (h7 z hz).moved hW.alike⟩
  rw [ai_v_ext he (hso z hz)]
  exact ((h2 z hz).moved hW.alike).kept hq
/-- what is known of a method -/
def ai_hd4 (hs : List (Nat × Nat × Nat × Nat × Nat)) : List (Nat × Nat × Nat × Nat) := hs.map (fun q => (q.1, q.2.1, q.2.2.1, q.2.2.2.1))
def ai_mw (M : ai_M) : Cond := if M.hs.isEmpty then .code M.y M.code M.maxL M.ret else .codeWith M.y M.code M.maxL M.ret (ai_hd4 M.hs)
def ai_mok (tb : List Cond) (M : ai_M) : Prop := plainName M.y.cls = true ∧ ai_mw M ∈ tb ∧ Cond.initialized M.y.cls ∈ tb ∧ M.y.cls ≠ "java/lang/invoke/MethodHandle" ∧ M.y.cls ≠ "java/lang/invoke/VarHandle" ∧
  ∀ q ∈ M.hs, q.2.2.2.1 ≠ 0 ∧ (q.2.2.2.2 = 1 ∨ q.2.2.2.2 = 2) ∧ Cond.classLink M.y.cls q.2.2.2.1 (ai_exn q.2.2.2.2) ∈ tb
def ai_np (y : MethodName) : Option Nat := (parseMethodDescriptor y.desc).map (fun d => d.parameters.length)
/-- what is known of a call, or of a throw -/
def ai_cok (tb nw : List Cond) (cl : List vw_C) (P : ai_P) (own : String) (cc : ByteArray) (pc : Nat) (q : ai_I) : Prop := match q.ins with
  | .invokestatic idx => (5001 ≤ q.r1 ∧ q.r1 ≤ 5004) ∨ (ai_mok tb (P.mth q.r1) ∧ Cond.methodLink own idx (P.mth q.r1).y ∈ tb ∧ Cond.static (P.mth q.r1).y ∈ tb ∧ ai_np (P.mth q.r1).y = some q.r2)
  | .invokevirtual idx => ai_mok tb (P.mth q.r1) ∧ (P.mth q.r1).hs = [] ∧ Cond.methodLink own idx (P.mth q.r1).y ∈ tb ∧ Cond.instanceMethod (P.mth q.r1).y ∈ tb ∧ Cond.selects (P.mth q.r1).y.cls (P.mth q.r1).y (P.mth q.r1).y ∈ tb ∧ (∃ k, q.r2 = k + 1 ∧ ai_np (P.mth q.r1).y = some k) ∧
    ∃ (t : Nat) (T : u_T) (N : Nat), q.rv = .retAddr t ∧ t < 100 ∧ cl[t]? = some ((P.mth q.r1).y.cls, T, N)
  | .invokespecial idx => q.r1 = 5000 ∨ (ai_mok tb (P.mth q.r1) ∧ (P.mth q.r1).hs = [] ∧ (P.mth q.r1).ret = none ∧ (Cond.methodLink own idx (P.mth q.r1).y ∈ tb ∨ ∃ host, Cond.methodLinkNest own idx (P.mth q.r1).y host ∈ nw) ∧ Cond.instanceMethod (P.mth q.r1).y ∈ tb ∧ (P.mth q.r1).y.name = "<init>" ∧ ∃ k, q.r2 = k + 1 ∧ ai_np (P.mth q.r1).y = some k)
  | .new idx => q.r2 = 9999 → ∃ ic, (q.r1 = 1 ∨ q.r1 = 2) ∧ decode cc (pc + 3) = .ok (.dup, 1) ∧ decode cc (pc + 4) = .ok (.invokespecial ic, 3) ∧ decode cc (pc + 7) = .ok (.athrow, 1) ∧ Cond.classLink own idx (ai_exn q.r1) ∈ tb ∧ Cond.initialized (ai_exn q.r1) ∈ tb ∧
      ∀ w ∈ vx_at0 own ic (ai_exn q.r1) ["java/lang/RuntimeException", "java/lang/Exception"], w ∈ tb ∨ w ∈ nw
  | _ => True
end
section
/-! what a run of the interpreter says of the machine -/
theorem ai_args_lc (ad : Nat → Nat) : ∀ (as : List Value) (i : Nat), lv_args i (as.map (ai_v ad)) = ai_lc ad (lv_args i as)
  | [], _ => rfl
  | v :: vs, i => by
    simp only [List.map_cons, lv_args, ai_lc, ai_cat]
    rw [ai_args_lc ad vs]
    rfl
theorem ai_args_ok {n : Nat} : ∀ (as : List Value) (i : Nat), (∀ v ∈ as, ai_ok n v) → ∀ q ∈ lv_args i as, ai_ok n q.2
  | [], _, _, q, hq => by cases hq
  | v :: vs, i, h, q, hq => by
    rcases List.mem_cons.mp hq with rfl | h2
    · exact h _ List.mem_cons_self
    · exact ai_args_ok vs _ (fun w hw => h w (List.mem_cons_of_mem _ hw)) q h2
theorem ai_sl_len (ad : Nat → Nat) : ∀ (as : List Value), (lg_sl (as.map (ai_v ad))).length = ai_wt as
  | [] => rfl
  | v :: vs => by
    have ih := ai_sl_len ad vs
    simp only [lg_sl, List.map_cons, List.flatMap_cons, List.length_append, ai_wt, List.sum_cons, ai_cat] at ih ⊢
    rw [ih]
    rcases lv_cat v with h | h <;> simp [h]
theorem ai_inv_spec {virt : Bool} {q : ai_I} {pc : Nat} {lv : ai_L} {st : List Value} {h : ai_H} {mid' : Nat} {as rest : List Value} (hq : ai_inv virt q pc lv st h = some (.inr (.inl (mid', as, rest)))) :
    mid' = q.r1 ∧ st = as.reverse ++ rest ∧ as.length = q.r2 ∧ as = (st.take q.r2).reverse ∧ (virt = true → ∃ (a : Nat) (as' : List Value), as = .ref a :: as' ∧ ∃ c : ai_C, h[a]? = some c ∧ q.rv = .retAddr c.1) := by
  unfold ai_inv at hq
  split at hq
  · cases hq
  · rename_i hl
    have hst : st = (st.take q.r2).reverse.reverse ++ st.drop q.r2 := by rw [List.reverse_reverse, List.take_append_drop]
    have hlen : (st.take q.r2).reverse.length = q.r2 := by rw [List.length_reverse, List.length_take]; omega
    split at hq
    · split at hq
      · rename_i a as' has
        split at hq
        · rename_i t n f ha
          split at hq
          · rename_i hrv
            cases hq
            exact ⟨rfl, hst, hlen, rfl, fun _ => ⟨a, as', has, _, ha, hrv⟩⟩
          · cases hq
        · cases hq
      · cases hq
    · rename_i hv
      cases hq
      exact ⟨rfl, hst, hlen, rfl, fun h => absurd h hv⟩
/-- the words of a method: its own head, and all good ones -/
abbrev ai_ws (tb : List Cond) (M : ai_M) : List Cond := ai_mw M :: tb
theorem ai_good {tb : List Cond} (hg : ∀ w ∈ tb, goodWord w = true) {L : List Cond} (hL : ∀ w ∈ L, w ∈ tb) : GoodIn tb L := fun w hw => ⟨hL w hw, good_of_word (hg w (hL w hw))⟩
/-- what the catching of an exception rests on -/
def ai_Catch (l : Launch) : Prop := ∀ {p : Program} {e : Env} {R : Room} {s : State} {m : MethodId} {args : Array Value} {below : List Frame} {meth : Method} {c : Code} {H : Heap} {locs : List Loc} {cells slots : Nat} {Q : State → Prop} {pc : Nat} {ls : Array Slot} {rest : List Value} {own name : String} {E : String} {ce : Cell} {q : Addr} (_ : s.vm.findClass own = some m.cls) (pre : List ExceptionTableEntry) (x : ExceptionTableEntry) (suf : List ExceptionTableEntry) (_ : c.exceptionTable.toList = pre ++ x :: suf)
    (_ : ∀ z ∈ pre, covers z pc = false ∨ (z.catchType ≠ 0 ∧ ∃ nm : String, (Cond.classLink own z.catchType nm).before args s = true ∧ va_Nc E nm s)) (_ : covers x pc = true) (_ : x.catchType ≠ 0)
    (_ : (Cond.classLink own x.catchType name).before args s = true) (_ : (Cond.castable E name).before args s = true) (_ : H[q]? = some ce) (_ : ce.vm = .none) (_ : s.vm.findClass E = some ce.cls)
    (_ : W p l e R s m args below meth c H locs cells slots Q (F0 m x.handlerPc ls [.ref q])), vx_W p l e R s m args below meth c H locs cells slots Q (F0 m pc ls rest) q
section AIX
variable (l : Launch) (P : ai_P) (cl : List vw_C) (D : va_G) (tb nw : List Cond) (nc : List (String × String)) (sl : ai_SL) (ao : List String) (n0 : Nat) (A : Nat → Prop)
def ai_PO : Prop := ai_K cl P.ty tb ∧ (∀ w ∈ tb, goodWord w = true) ∧ (∀ w ∈ nw, ai_nwk w) ∧ (∀ z ∈ sl, ai_ok P.p0 z.2.2.2) ∧
  (∀ t b, P.ac t b = true → ∃ (C : String) (T : u_T) (N : Nat), cl[b]? = some (C, T, N) ∧ (C = P.rc t ∨ Cond.castable C (P.rc t) ∈ nw)) ∧
  (∀ t, (t = 1 ∨ t = 2) → Cond.castable (ai_exn t) (ai_exn t) ∈ nw ∧ ∀ t', (t' = 1 ∨ t' = 2) → t ≠ t' → (ai_exn t, ai_exn t') ∈ nc) ∧
  ∀ (mid pc : Nat) (q : ai_I), P.tab mid pc = some q → decode (P.mth mid).code pc = .ok (q.ins, q.len) ∧ ai_iok tb nw cl P.rc sl ao (P.mth mid).y.cls (P.mth mid).y.name pc q ∧ ai_cok tb nw cl P (P.mth mid).y.cls (P.mth mid).code pc q
def ai_Pc (ad : Nat → Nat) (h : ai_H) (as : List Value) : Array Value → State → Prop := va_Pc (as.map (ai_v ad)) (fun U => ai_w cl D P.rc P.p0 n0 ad h U U.heap ∧ ai_env cl D sl ao nw nc ad A U U.heap ∧ n0 ≤ U.heap.size)
def ai_Qc (ad : Nat → Nat) (h : ai_H) (o : Option Value ⊕ Nat) (h' : ai_H) : Array Value → State → Outcome → State → Prop := fun _ st oc t => ∃ (v : Option Value) (ad' : Nat → Nat), o = .inl v ∧ (∀ k, k < h.length → ad' k = ad k) ∧ oc = .returned (v.map (ai_v ad')) ∧ (∀ u, v = some u → ai_ok h'.length u) ∧ ai_w cl D P.rc P.p0 n0 ad' h' t t.heap ∧ va_F A st t
def ai_XC (ad : Nat → Nat) (h : ai_H) (o : Option Value ⊕ Nat) (h' : ai_H) : String → State → State → Prop := fun E st t => ∃ (x : Nat) (ad' : Nat → Nat), o = .inr x ∧ (x = 1 ∨ x = 2) ∧ E = ai_exn x ∧ (∀ k, k < h.length → ad' k = ad k) ∧ ai_w cl D P.rc P.p0 n0 ad' h' t t.heap ∧ va_F A st t
def ai_xn (o : Option Value ⊕ Nat) : Nat := match o with | .inl _ => 0 | .inr _ => 1
def ai_Snd (n : Nat) : Prop := ∀ (mid d w pc : Nat) (lv : ai_L) (st : List Value) (h : ai_H) (o : Option Value ⊕ Nat) (h' : ai_H), ai_run P n mid d w pc lv st h = some (o, h') →
  ∀ (p : Program) (e : Env) (R : Room) (s : State) (m : MethodId) (args : Array Value) (below : List Frame) (meth : Method) (c : Code) (H : Heap) (locs : List Loc) (cells slots mc ms : Nat) (ls : Array Slot) (ad ad0 : Nat → Nat) (h0 : ai_H),
  p.tables.exec = Jvm.exec → c.code = (P.mth mid).code → c.maxLocals = (P.mth mid).maxL → meth.sig.returnType = (P.mth mid).ret → meth.locks = false → meth.name = (P.mth mid).y.name → s.vm.findClass (P.mth mid).y.cls = some m.cls → (∀ w ∈ tb, w.before args s = true) →
  ai_env cl D sl ao nw nc ad0 A s s.heap → c.exceptionTable.toList = tableOf (ai_hd4 (P.mth mid).hs) → (∀ q ∈ (P.mth mid).hs, q.2.2.2.1 ≠ 0 ∧ (q.2.2.2.2 = 1 ∨ q.2.2.2.2 = 2) ∧ Cond.classLink (P.mth mid).y.cls q.2.2.2.1 (ai_exn q.2.2.2.2) ∈ tb) →
  d ≤ R.frames → w ≤ R.locals → mc ≤ R.cells → ms ≤ R.slots → n0 ≤ s.heap.size → P.p0 ≤ h0.length → (∀ k, k < h0.length → ad k = ad0 k) → h0.length ≤ h.length → ai_F (P.mth mid).maxL ad h.length lv st ls → ai_w cl D P.rc P.p0 n0 ad h s H → va_S A s.heap H locs →
  cells + h0.length = h.length → slots + ai_sz h0 = ai_sz h → h'.length + ai_xn o ≤ mc + h0.length → ai_sz h' + 6 * ai_xn o ≤ ms + ai_sz h0 →
  W p l e R s m args below meth c H locs cells slots (vx_MQ below (ai_Qc P cl D n0 A ad0 h0 o h') (ai_XC P cl D n0 A ad0 h0 o h') args s mc ms A) (F0 m pc ls (st.map (ai_v ad)))
end AIX
section AIY
variable {l : Launch} {P : ai_P} {cl : List vw_C} {D : va_G} {tb nw : List Cond} {nc : List (String × String)} {sl : ai_SL} {ao : List String} {n0 : Nat} {A : Nat → Prop}
theorem ai_blind (hnk : ∀ w ∈ nw, ai_nwk w) (ad : Nat → Nat) (h : ai_H) (as : List Value) : FrameBlind (ai_Pc P cl D nw nc sl ao n0 A ad h as) := by
  intro a U g mk ⟨h1, h2, h3, h4⟩
  refine ⟨h1, h2.moved (u := U) (U := U.calling g mk a) (Vm.Alike.refl U.vm), ?_, h4⟩
  obtain ⟨q1, q2, q3, q4, q5, q6, q7⟩ := h3
  exact ⟨va_K.moved (u := U) (U := U.calling g mk a) (Vm.Alike.refl U.vm) q1, fun z hz => va_Z.moved (u := U) (U := U.calling g mk a) (Vm.Alike.refl U.vm) (q2 z hz), fun C hC => va_AO.moved (u := U) (U := U.calling g mk a) (Vm.Alike.refl U.vm) (q3 C hC), fun w hw => ai_nw_warm (s := U) (U := U.calling g mk a) (hnk w hw) (State.WarmedH.refl U) (q4 w hw), vx_Zq.moved (u := U) (U := U.calling g mk a) (Vm.Alike.refl U.vm) q5, vx_Zq.moved (u := U) (U := U.calling g mk a) (Vm.Alike.refl U.vm) q6, fun z hz => va_Nc.moved (u := U) (U := U.calling g mk a) (Vm.Alike.refl U.vm) (q7 z hz)⟩
/-- a method's contract out of its run -/
theorem ai_meth (hPO : ai_PO P cl tb nw nc sl ao) {n mid d w : Nat} {as : List Value} {h h1 : ai_H} {o : Option Value ⊕ Nat} (IH : ai_Snd l P cl D tb nw nc sl ao n0 A n) (hrun : ai_run P n mid d w 0 (lv_args 0 as) [] h = some (o, h1)) (hmok : ai_mok tb (P.mth mid))
    (hok : ∀ v ∈ as, ai_ok h.length v) (hmax : ai_wt as ≤ (P.mth mid).maxL) (hP0 : P.p0 ≤ h.length) (ad : Nat → Nat) :
    vx_Met l (P.mth mid).y (ai_ws tb (P.mth mid)) { frames := d, cells := h1.length - h.length + ai_xn o, slots := ai_sz h1 - ai_sz h + 6 * ai_xn o, locals := w } (ai_Pc P cl D nw nc sl ao n0 A ad h as) (ai_Qc P cl D n0 A ad h o h1) (ai_XC P cl D n0 A ad h o h1) (h1.length - h.length + ai_xn o) (ai_sz h1 - ai_sz h + 6 * ai_xn o) A := by
  obtain ⟨g1, g2, g3, g4, g5, g6⟩ := hmok
  have hmono := ai_mono _ _ _ _ _ _ _ _ _ _ hrun
  have body : ∀ p e s m args below meth c s₁, BodyLoose p l (P.mth mid).y (headSpec (ai_ws tb (P.mth mid)) { frames := d, cells := h1.length - h.length + ai_xn o, slots := ai_sz h1 - ai_sz h + 6 * ai_xn o, locals := w }) (P.mth mid).code (P.mth mid).maxL (P.mth mid).ret e s m args below meth c s₁ → c.maxLocals = (P.mth mid).maxL → c.exceptionTable.toList = tableOf (ai_hd4 (P.mth mid).hs) → ai_Pc P cl D nw nc sl ao n0 A ad h as args s →
      W p l e (headSpec (ai_ws tb (P.mth mid)) { frames := d, cells := h1.length - h.length + ai_xn o, slots := ai_sz h1 - ai_sz h + 6 * ai_xn o, locals := w }).room s m args below meth c s.heap [] 0 0 (vx_MQ below (ai_Qc P cl D n0 A ad h o h1) (ai_XC P cl D n0 A ad h o h1) args s (h1.length - h.length + ai_xn o) (ai_sz h1 - ai_sz h + 6 * ai_xn o) A) (entryFrame m args (P.mth mid).maxL) := by
    intro p e s m args below meth c s₁ B hml htab hv
    obtain ⟨rfl, hw, hE, hn⟩ := hv
    have hts := atoms_spec (ws := ai_ws tb (P.mth mid)) B.pre
    have hl := lv_entry (as.map (ai_v ad)) (n := (P.mth mid).maxL) (by rw [ai_sl_len]; exact hmax)
    rw [lg_entry_eq]
    generalize (lg_sl (as.map (ai_v ad)) ++ List.replicate ((P.mth mid).maxL - (lg_sl (as.map (ai_v ad))).length) Slot.unset).toArray = ls at hl ⊢
    rw [ai_args_lc] at hl
    refine IH mid d w 0 _ [] h o h1 hrun p e _ s m _ below meth c s.heap [] 0 0 _ _ ls ad ad h B.exec B.bytes hml B.returns B.notSynchronized (name_of_methodNamed B.named B.method).1 (findClass_of_methodNamed B.named) (fun w hw => hts w (List.mem_cons_of_mem _ hw)) hE htab g6 (Nat.le_refl _) (Nat.le_refl _) (Nat.le_refl _) (Nat.le_refl _) hn hP0 (fun _ _ => rfl) (Nat.le_refl _) ⟨hl, ai_args_ok as 0 hok, fun v hv => by cases hv⟩ hw va_S.rf (Nat.zero_add _) (Nat.zero_add _) ?_ ?_
    · omega
    · omega
  by_cases hem : (P.mth mid).hs.isEmpty = true
  · have hem2 : (P.mth mid).hs = [] := List.isEmpty_iff.mp hem
    refine vx_ofW (cc := (P.mth mid).code) (maxL := (P.mth mid).maxL) (ret := (P.mth mid).ret) (ws' := tb) g1 (by unfold ai_ws ai_mw; rw [if_pos hem]) (fun p e s m args below meth c s₁ B hml ht hv => body p e s m args below meth c s₁ B hml ?_ hv)
    rw [hem2]
    exact List.eq_nil_iff_forall_not_mem.mpr (fun x hx => ht x hx)
  · refine vx_ofWH (cc := (P.mth mid).code) (maxL := (P.mth mid).maxL) (ret := (P.mth mid).ret) (hh := ai_hd4 (P.mth mid).hs) (ws' := tb) g1 (by unfold ai_ws ai_mw; rw [if_neg hem]) (fun p e s m args below meth c s₁ B hml hv => body p e s m args below meth c s₁ B hml ?_ hv)
    have hts := atoms_spec (ws := ai_ws tb (P.mth mid)) B.pre
    have h9 : (Cond.codeWith (P.mth mid).y (P.mth mid).code (P.mth mid).maxL (P.mth mid).ret (ai_hd4 (P.mth mid).hs)).before args s = true := by
      have := hts (ai_mw (P.mth mid)) List.mem_cons_self
      unfold ai_mw at this
      rw [if_neg hem] at this
      exact this
    exact vx_table (x := (P.mth mid).y) B h9
end AIY
end
section
/-! calls, returns, throws; then all runs -/
theorem ai_ex_ret {P : ai_P} {d w nL pc : Nat} {rt : Option FieldType} {q : ai_I} {lv : ai_L} {st : List Value} {h : ai_H} {v : Option Value} (hq : ai_ex P d w nL rt q pc lv st h = some (.inr (.inr (.inl v)))) : q.ins = .ireturn ∨ q.ins = .lreturn ∨ q.ins = .areturn ∨ q.ins = .return_ := by
  obtain ⟨i, len, r1, r2, rv⟩ := q
  cases i with
  | ireturn => exact Or.inl rfl
  | lreturn => exact Or.inr (Or.inl rfl)
  | areturn => exact Or.inr (Or.inr (Or.inl rfl))
  | return_ => exact Or.inr (Or.inr (Or.inr rfl))
  | _ =>
    exfalso
    simp only [ai_ex, ai_I.ins, ai_I.r1, ai_I.r2, ai_I.rv, ai_nx, ai_nxE, ai_bin, ai_binL, ai_binS, ai_div, ai_un, ai_if, ai_cmp, ai_ld, ai_sto, ai_stoL, ai_inc, ai_sw, ai_get, ai_put, ai_len, ai_ald, ai_ast, ai_newo, ai_newa, ai_inv, ai_copy, ai_math, ai_acmp] at hq
    try (repeat' split at hq)
    all_goals cases hq
theorem ai_ex_thr {P : ai_P} {d w nL pc : Nat} {rt : Option FieldType} {q : ai_I} {lv : ai_L} {st : List Value} {h : ai_H} {t : Nat} (hq : ai_ex P d w nL rt q pc lv st h = some (.inr (.inr (.inr t)))) : ∃ idx, q.ins = .new idx ∧ q.r2 = 9999 ∧ t = q.r1 := by
  obtain ⟨i, len, r1, r2, rv⟩ := q
  cases i with
  | new idx =>
    dsimp only [ai_ex, ai_I.ins, ai_I.r1, ai_I.r2] at hq
    split at hq
    · rename_i h9
      cases hq
      exact ⟨idx, rfl, h9, rfl⟩
    · cases hq
  | _ =>
    exfalso
    simp only [ai_ex, ai_I.ins, ai_I.r1, ai_I.r2, ai_I.rv, ai_nx, ai_nxE, ai_bin, ai_binL, ai_binS, ai_div, ai_un, ai_if, ai_cmp, ai_ld, ai_sto, ai_stoL, ai_inc, ai_sw, ai_get, ai_put, ai_len, ai_ald, ai_ast, ai_newo, ai_newa, ai_inv, ai_copy, ai_math, ai_acmp, ai_ret] at hq
    try (repeat' split at hq)
    all_goals cases hq
theorem ai_ex_call {P : ai_P} {d w nL pc : Nat} {rt : Option FieldType} {q : ai_I} {lv : ai_L} {st : List Value} {h : ai_H} {z : Nat × List Value × List Value} (hq : ai_ex P d w nL rt q pc lv st h = some (.inr (.inl z))) : (∃ idx, q.ins = .invokestatic idx ∧ ¬ (5001 ≤ q.r1 ∧ q.r1 ≤ 5004) ∧ ai_inv false q pc lv st h = some (.inr (.inl z))) ∨ (∃ idx, q.ins = .invokevirtual idx ∧ ai_inv true q pc lv st h = some (.inr (.inl z))) ∨ (∃ idx, q.ins = .invokespecial idx ∧ q.r1 ≠ 5000 ∧ ai_inv false q pc lv st h = some (.inr (.inl z)) ∧ ∃ a r, (st.take q.r2).reverse = .ref a :: r) := by
  obtain ⟨i, len, r1, r2, rv⟩ := q
  cases i with
  | invokestatic idx =>
    dsimp only [ai_ex, ai_I.ins, ai_I.r1, ai_I.r2] at hq
    split at hq
    · unfold ai_copy ai_nxE at hq
      repeat' split at hq
      all_goals cases hq
    · rename_i h9
      split at hq
      · unfold ai_math ai_nx at hq
        repeat' split at hq
        all_goals cases hq
      · rename_i h8
        exact Or.inl ⟨idx, rfl, fun h => (Nat.lt_or_ge r1 5002).elim (fun g => h9 (by have := h.1; dsimp only [ai_I.r1] at this; omega)) (fun g => h8 ⟨g, h.2⟩), hq⟩
  | invokevirtual idx => exact Or.inr (Or.inl ⟨idx, rfl, hq⟩)
  | invokespecial idx =>
    dsimp only [ai_ex, ai_I.ins, ai_I.r1, ai_I.r2] at hq
    split at hq
    · split at hq
      · split at hq <;> cases hq
      · cases hq
    · rename_i h9
      split at hq
      · rename_i a r h8
        exact Or.inr (Or.inr ⟨idx, rfl, h9, hq, a, r, h8⟩)
      · cases hq
  | _ =>
    exfalso
    simp only [ai_ex, ai_I.ins, ai_I.r1, ai_I.r2, ai_I.rv, ai_nx, ai_nxE, ai_bin, ai_binL, ai_binS, ai_div, ai_un, ai_if, ai_cmp, ai_ld, ai_sto, ai_stoL, ai_inc, ai_sw, ai_get, ai_put, ai_len, ai_ald, ai_ast, ai_newo, ai_newa, ai_copy, ai_math, ai_acmp, ai_ret] at hq
    try (repeat' split at hq)
    all_goals cases hq
section AIM
variable {p : Program} {l : Launch} {e : Env} {R : Room} {s : State} {m : MethodId} {args : Array Value} {below : List Frame} {meth : Method} {c : Code} {H : Heap} {locs : List Loc} {cells slots : Nat} {Q : State → Prop}
variable {P : ai_P} {cl : List vw_C} {D : va_G} {tb nw : List Cond} {nc : List (String × String)} {sl : ai_SL} {ao : List String} {n0 : Nat} {A : Nat → Prop}
theorem ai_after {mc ms pc : Nat} {ls : Array Slot} {st0 rest : List Value} {ad : Nat → Nat} {h h1 : ai_H} {o : Option Value ⊕ Nat} {a : Array Value} (hr : vx_Run p l e R s m args below meth c H locs cells slots mc ms (F0 m pc ls st0) rest (ai_Qc P cl D n0 A ad h o h1 a) (ai_XC P cl D n0 A ad h o h1) A) (hS : va_S A s.heap H locs)
    (kx : ∀ (x : Nat) (ad' : Nat → Nat) (ce : Cell) (q9 : Addr) (H1 : Heap) (locs1 : List Loc), o = .inr x → (x = 1 ∨ x = 2) → (∀ k, k < h.length → ad' k = ad k) → ai_w cl D P.rc P.p0 n0 ad' h1 s H1 → va_S A s.heap H1 locs1 → H1[q9]? = some ce → ce.vm = .none → s.vm.findClass (ai_exn x) = some ce.cls → vx_W p l e R s m args below meth c H1 locs1 (cells + mc) (slots + ms) Q (F0 m pc ls rest) q9)
    (kk : ∀ (v : Option Value) (ad' : Nat → Nat) (H1 : Heap) (locs1 : List Loc), o = .inl v → (∀ k, k < h.length → ad' k = ad k) → (∀ u, v = some u → ai_ok h1.length u) → ai_w cl D P.rc P.p0 n0 ad' h1 s H1 → va_S A s.heap H1 locs1 → W p l e R s m args below meth c H1 locs1 (cells + mc) (slots + ms) Q (F0 m (pc + 3) ls ((v.map (ai_v ad')).toList ++ rest))) : W p l e R s m args below meth c H locs cells slots Q (F0 m pc ls st0) := by
  intro T hT X
  rcases hr T hT X with ⟨v, st₀, t, T', L, h0, X', hL, e1, e2, ⟨v', ad', ho, he, hv, hok, hw, hF⟩, st⟩ | ⟨q, st₀, t, T', L, E, ce, h0, X', hL, e1, e2, ⟨x, ad', ho, hx, hE, he, hw, hF⟩, hce, hcv, hcl, st⟩
  · cases hv
    obtain ⟨k1, k2, k3⟩ := vx_keep h0 e1 hS (fun _ _ h => h) (fun _ h => h) hL hF
    have hal : t.vm.Alike s.vm := by rw [← e2]; exact X'.warmed.alike.symm
    obtain ⟨t2, a1, b1⟩ := kk v' ad' T'.heap (locs ++ L) ho he hok (by rw [e1]; exact hw.moved hal) k3 T' rfl X'
    exact ⟨t2, st t2 a1, b1⟩
  · subst hE
    obtain ⟨k1, k2, k3⟩ := vx_keep h0 e1 hS (fun _ _ h => h) (fun _ h => h) hL hF
    have hal : t.vm.Alike s.vm := by rw [← e2]; exact X'.warmed.alike.symm
    obtain ⟨t2, a1, b1⟩ := kx x ad' ce q T'.heap (locs ++ L) ho hx he (by rw [e1]; exact hw.moved hal) k3 (by rw [e1]; exact hce) hcv hcl T' rfl X'
    exact ⟨t2, st.trans a1, b1⟩
/-- a call that returns is a call that returns or throws -/
theorem ai_vrun {mc ms : Nat} {g : JFrame} {rest : List Value} {Qa : State → Outcome → State → Prop} {XC : String → State → State → Prop} {free : Addr → Prop} (h : va_Run p l e R s m args below meth c H locs cells slots mc ms g rest Qa free) : vx_Run p l e R s m args below meth c H locs cells slots mc ms g rest Qa XC free :=
  fun T hT X => Or.inl (h T hT X)
theorem ai_met {y : MethodName} {ws : List Cond} {rm : Room} {Pc : Array Value → State → Prop} {Qc : Array Value → State → Outcome → State → Prop} {XC : String → State → State → Prop} {mc ms : Nat} {free : Addr → Prop} (h : vx_Met l y ws rm Pc Qc XC mc ms free) (hX : ∀ E st t, ¬ XC E st t) : Met l y ws rm Pc Qc mc ms free := by
  refine MetFree.mono h (fun _ _ h => h) (fun _ _ _ _ _ h => h) (fun a st o t _ hq => ?_)
  rcases hq with hq | ⟨q, -, E, ce, L, hx, -⟩
  · exact hq
  · exact absurd hx (hX E st t)
/-- a return -/
theorem ai_rets {cc : ByteArray} {mc ms pc nL : Nat} {ls : Array Slot} {st : List Value} {lv : ai_L} {ad ad0 : Nat → Nat} {h h0 : ai_H} {v : Option Value} {d w : Nat} {rt : Option FieldType} {q : ai_I} {own nm : String} (hx : p.tables.exec = Jvm.exec) (hb : c.code = cc) (hr : meth.sig.returnType = rt) (hlocks : meth.locks = false) (hdg : decode cc pc = .ok (q.ins, q.len)) (hlen : ai_iok tb nw cl P.rc sl ao own nm pc q)
    (hq : ai_ex P d w nL rt q pc lv st h = some (.inr (.inr (.inl v)))) (hF : ai_F nL ad h.length lv st ls) (hw : ai_w cl D P.rc P.p0 n0 ad h s H) (hS : va_S A s.heap H locs) (he : ∀ k, k < h0.length → ad k = ad0 k) (h1 : cells ≤ mc) (h2 : slots ≤ ms) :
    W p l e R s m args below meth c H locs cells slots (vx_MQ below (ai_Qc P cl D n0 A ad0 h0 (.inl v) h) (ai_XC P cl D n0 A ad0 h0 (.inl v) h) args s mc ms A) (F0 m pc ls (st.map (ai_v ad))) := by
  have hQ : ∀ t : State, t.heap = H → s.WarmedH t.vm → (∀ u, v = some u → ai_ok h.length u) → ai_Qc P cl D n0 A ad0 h0 (.inl v) h args s (.returned (v.map (ai_v ad))) t := fun t ht hW hok => ⟨v, ad, rfl, he, rfl, hok, by rw [ht]; exact hw.moved hW.alike, hS.F ht⟩
  refine vx_ret (W.widen h1 h2 ?_)
  obtain ⟨i, len, r1, r2, rv⟩ := q
  dsimp only [ai_I.ins, ai_I.len] at hdg
  cases i with
  | ireturn =>
    dsimp only [ai_iok, ai_I.ins, ai_I.len] at hlen
    subst hlen
    dsimp only [ai_ex, ai_I.ins] at hq
    unfold ai_ret at hq
    split at hq
    · rename_i u
      split at hq
      · rename_i hcd
        cases hq
        have hok : ∀ z, some u = some z → ai_ok h.length z := fun z hz => by cases hz; exact ai_hd hF.2.2
        unfold ai_retok at hcd
        split at hcd
        · exact W.iret hx hb hr (fun t ht hW => hQ t ht hW hok) hS.2.2 hdg
        · rename_i z
          rw [Bool.or_eq_true, beq_iff_eq, beq_iff_eq] at hcd
          exact W.zret hx hb hr (by rcases hcd with rfl | rfl <;> decide) (fun t ht hW => hQ t ht hW hok) hS.2.2 hdg
        · rename_i z
          rw [beq_iff_eq] at hcd
          exact W.zret hx hb hr (by show Value.int z.toInt8.toInt32 = _; rw [hcd]) (fun t ht hW => hQ t ht hW hok) hS.2.2 hdg
        · rename_i z
          rw [beq_iff_eq] at hcd
          exact W.zret hx hb hr (by show Value.int z.toUInt32.toUInt16.toUInt32.toInt32 = _; rw [hcd]) (fun t ht hW => hQ t ht hW hok) hS.2.2 hdg
        · cases hcd
      · cases hq
    · cases hq
  | lreturn =>
    dsimp only [ai_iok, ai_I.ins, ai_I.len] at hlen
    subst hlen
    dsimp only [ai_ex, ai_I.ins] at hq
    unfold ai_ret at hq
    split at hq
    · rename_i u
      split at hq
      · rename_i hcd
        cases hq
        rw [Bool.and_eq_true] at hcd
        have hok : ∀ z, some u = some z → ai_ok h.length z := fun z hz => by cases hz; exact ai_hd hF.2.2
        have hrt : rt = some .long := by
          have := hcd.2
          unfold ai_rtJ at this
          split at this
          · rfl
          · cases this
        subst hrt
        cases u <;> first | (exact W.lret hx hb hr (fun t ht hW => hQ t ht hW hok) hS.2.2 hdg) | (cases hcd.1)
      · cases hq
    · cases hq
  | areturn =>
    dsimp only [ai_iok, ai_I.ins, ai_I.len] at hlen
    subst hlen
    dsimp only [ai_ex, ai_I.ins] at hq
    unfold ai_ret at hq
    split at hq
    · rename_i u
      split at hq
      · rename_i hcd
        cases hq
        rw [Bool.and_eq_true] at hcd
        have hok : ∀ z, some u = some z → ai_ok h.length z := fun z hz => by cases hz; exact ai_hd hF.2.2
        have hrt : ∃ ty, rt = some ty ∧ ((∃ n, ty = .object n) ∨ ∃ t, ty = .array t) := by
          have := hcd.2
          unfold ai_rtA at this
          split at this
          · exact ⟨_, rfl, Or.inl ⟨_, rfl⟩⟩
          · exact ⟨_, rfl, Or.inr ⟨_, rfl⟩⟩
          · cases this
        obtain ⟨ty, rfl, hty⟩ := hrt
        refine W.aret (v := ai_v ad u) hx hb hr hty ?_ (fun t ht hW => hQ t ht hW hok) hS.2.2 hdg
        cases u <;> first | (exact Or.inl rfl) | (exact Or.inr ⟨_, rfl⟩) | (cases hcd.1)
      · cases hq
    · cases hq
  | return_ =>
    dsimp only [ai_iok, ai_I.ins, ai_I.len] at hlen
    subst hlen
    dsimp only [ai_ex, ai_I.ins] at hq
    split at hq
    · cases hq
      exact W.vret hx hb hr (fun t ht hW => hQ t ht hW (fun u hu => by cases hu)) hS.2.2 hdg
    · cases hq
  | _ => exfalso; rcases ai_ex_ret hq with h9 | h9 | h9 | h9 <;> cases h9
end AIM
end
section
/-! all runs -/
theorem ai_w.pushX {cl : List vw_C} {D : va_G} {rc : Nat → String} {P0 n0 : Nat} {ad : Nat → Nat} {h : ai_H} {U : State} {H : Heap} (w : ai_w cl D rc P0 n0 ad h U H) (q : Nat) : ai_w cl D rc P0 n0 (va_up ad h.length q) (h ++ [ai_xc]) U H := by
  have he : ∀ k, k < h.length → va_up ad h.length q k = ad k := fun k hk => by simp [va_up, Nat.ne_of_lt hk]
  have key : ∀ (i : Nat) (b : ai_C), (h ++ [ai_xc])[i]? = some b → (i < h.length ∧ h[i]? = some b) ∨ (i = h.length ∧ b = ai_xc) := by
    intro i b hi
    by_cases hl : i < h.length
    · rw [List.getElem?_append_left hl] at hi
      exact Or.inl ⟨hl, hi⟩
    · rw [List.getElem?_append_right (by omega)] at hi
      have hz : i - h.length < 1 := (List.getElem?_eq_some_iff.mp hi).1
      have hi0 : i = h.length := by omega
      subst hi0
      rw [Nat.sub_self] at hi
      cases hi
      exact Or.inr ⟨rfl, rfl⟩
  have hlen : (h ++ [ai_xc]).length = h.length + 1 := by simp
  have h200 : ai_xc.1 = 200 := rfl
  refine ⟨fun i b hi => ?_, fun i b hi j hj => ?_, fun i j a b hi hj h1 h2 h3 h4 => ?_, fun i a hi h1 h2 => ?_⟩
  · rcases key i b hi with ⟨hl, h2⟩ | ⟨rfl, rfl⟩
    · rw [he i hl]
      exact (w.1 i b h2).ext he (fun j hj => w.2.1 i b h2 j hj)
    · exact ⟨fun h0 => absurd h0 (by rw [h200]; decide), fun _ h0 => absurd h0 (by rw [h200]; decide)⟩
  · rw [hlen]
    rcases key i b hi with ⟨hl, h2⟩ | ⟨rfl, rfl⟩
    · exact (w.2.1 i b h2 j hj).mono (by omega)
    · exact ai_ok_n _
  · rcases key i a hi with ⟨hl, p2⟩ | ⟨rfl, rfl⟩
    · rcases key j b hj with ⟨ml, q2⟩ | ⟨rfl, rfl⟩
      · rw [he i hl, he j ml] at h4
        exact w.2.2.1 i j a b p2 q2 h1 h2 h3 h4
      · rw [h200] at h3; omega
    · rw [h200] at h2; omega
  · rcases key i a hi with ⟨hl, p2⟩ | ⟨rfl, rfl⟩
    · rw [he i hl]
      exact w.2.2.2 i a p2 h1 h2
    · rw [h200] at h2; omega
theorem ai_find_spec {pc t tg : Nat} : ∀ {hs : List (Nat × Nat × Nat × Nat × Nat)}, ai_find hs pc t = some tg → ∃ pre x suf, hs = pre ++ x :: suf ∧ x.1 ≤ pc ∧ pc < x.2.1 ∧ x.2.2.1 = tg ∧ x.2.2.2.2 = t ∧ ∀ z ∈ pre, ¬ (z.1 ≤ pc ∧ pc < z.2.1) ∨ z.2.2.2.2 ≠ t
  | [], h => by cases h
  | q :: r, h => by
    unfold ai_find at h
    split at h
    · rename_i hc
      rw [Bool.and_eq_true, Bool.and_eq_true, decide_eq_true_eq, decide_eq_true_eq, decide_eq_true_eq] at hc
      cases h
      exact ⟨[], q, r, rfl, hc.1.1, hc.1.2, rfl, hc.2, fun z hz => by cases hz⟩
    · rename_i hc
      obtain ⟨pre, x, suf, e1, e2, e3, e4, e5, e6⟩ := ai_find_spec h
      refine ⟨q :: pre, x, suf, by rw [e1]; rfl, e2, e3, e4, e5, fun z hz => ?_⟩
      rcases List.mem_cons.mp hz with rfl | hz
      · by_cases h1 : z.1 ≤ pc ∧ pc < z.2.1
        · refine Or.inr (fun h2 => hc ?_)
          rw [Bool.and_eq_true, Bool.and_eq_true, decide_eq_true_eq, decide_eq_true_eq, decide_eq_true_eq]
          exact ⟨⟨h1.1, h1.2⟩, h2⟩
        · exact Or.inl h1
      · exact e6 z hz
section AIZ
variable {l : Launch} {P : ai_P} {cl : List vw_C} {D : va_G} {tb nw : List Cond} {nc : List (String × String)} {sl : ai_SL} {ao : List String} {n0 : Nat} {A : Nat → Prop}
set_option maxHeartbeats 4000000 in
theorem ai_sound (hPO : ai_PO P cl tb nw nc sl ao) (hl : l.stackTraces = false) (hC : ai_Catch l) (hA : ∀ q, n0 ≤ q → A q) : ∀ n, ai_Snd l P cl D tb nw nc sl ao n0 A n
  | 0 => fun mid d w pc lv st h o h' hr => by cases hr
  | n + 1 => by
    have IH := ai_sound hPO hl hC hA n
    intro mid d w pc lv st h o h' hr p e R s m args below meth c H locs cells slots mc ms ls ad ad0 h0 hx hb hml hret hlocks hnm hown hts hE htab hhs hRf hRl hRc hRs hn0 hP0 hext hle hF hw hS hc hs hmc hms
    unfold ai_run at hr
    split at hr
    · cases hr
    rename_i q hq
    have hPO' := hPO
    obtain ⟨hCK, hgd, hnk, hslok, hac, hexk, htabs⟩ := hPO'
    obtain ⟨hdg, hiok, hcok⟩ := htabs mid pc q hq
    have hsz0 : ∀ z ∈ sl, ai_ok h0.length z.2.2.2 := fun z hz => (hslok z hz).mono hP0
    split at hr
    · cases hr
    · rename_i pc' lv' st' x hex
      have hmo := ai_mono _ _ _ _ _ _ _ _ _ _ hr
      refine ai_step (P := P) (sl := sl) (ao := ao) (nw := nw) hx hb hml hts hCK hown hE.1 hac (fun z hz => ?_) (fun z hz => (hsz0 z hz).mono hle) hE.2.2.1 hE.2.2.2.1 hw hS hA hn0 hRf hRl hdg (by rw [hnm]; exact hiok) hex hF (by omega) (by omega) (fun ad' ls' H1 locs1 c1 s1 he hF' hw' hS' hc1 hs1 => ?_)
      · rw [ai_v_ext hext (hsz0 z hz)]
        exact hE.2.1 z hz
      · have hap := ai_app_mono h x
        exact IH mid d w pc' lv' st' (ai_app h x) o h' hr p e R s m args below meth c H1 locs1 c1 s1 mc ms ls' ad' ad0 h0 hx hb hml hret hlocks hnm hown hts hE htab hhs hRf hRl hRc hRs hn0 hP0 (fun k hk => (he k (by omega)).trans (hext k hk)) (by omega) hF' hw' hS' (by omega) (by omega) hmc hms
    · rename_i mid' as rest hex
      split at hr
      · cases hr
      rename_i hcond
      have hd0 : d ≠ 0 := fun z => hcond (Or.inl z)
      have hw0 : 8 + ((P.mth mid').maxL + 11) ≤ w := Nat.le_of_not_lt (fun z => hcond (Or.inr (Or.inl z)))
      have hwt : ai_wt rest ≤ 8 := Nat.le_of_not_lt (fun z => hcond (Or.inr (Or.inr (Or.inl z))))
      have hmx : ai_wt as ≤ (P.mth mid').maxL := Nat.le_of_not_lt (fun z => hcond (Or.inr (Or.inr (Or.inr z))))
      cases hrun : ai_run P n mid' (d - 1) (w - (8 + ((P.mth mid').maxL + 11))) 0 (lv_args 0 as) [] h with
      | none => rw [hrun] at hr; cases hr
      | some r =>
        obtain ⟨oc, h1⟩ := r
        rw [hrun] at hr
        have hmo := ai_mono _ _ _ _ _ _ _ _ _ _ hrun
        have hinv : ∃ virt, ai_inv virt q pc lv st h = some (.inr (.inl (mid', as, rest))) := by
          rcases ai_ex_call hex with ⟨_, _, _, h9⟩ | ⟨_, _, h9⟩ | ⟨_, _, _, h9, _⟩
          · exact ⟨_, h9⟩
          · exact ⟨_, h9⟩
          · exact ⟨_, h9⟩
        obtain ⟨virt0, hinv0⟩ := hinv
        obtain ⟨hm', hst, hlen, hasE, -⟩ := ai_inv_spec hinv0
        subst hm'
        have hokA : ∀ v ∈ as, ai_ok h.length v := fun v hv => hF.2.2 v (by rw [hst]; exact List.mem_append_left _ (List.mem_reverse.mpr hv))
        have hokR : ∀ v ∈ rest, ai_ok h.length v := fun v hv => hF.2.2 v (by rw [hst]; exact List.mem_append_right _ hv)
        have hstM : st.map (ai_v ad) = (as.map (ai_v ad)).reverse ++ rest.map (ai_v ad) := by rw [hst, List.map_append, List.map_reverse]
        have hWt : 2 * (F0 m pc ls (st.map (ai_v ad))).monitorRoom + ((rest.map (ai_v ad)).map fun v => v.category).sum ≤ 8 := by rw [ai_wt_map]; show 2 * 0 + _ ≤ 8; omega
        have hpre : ∀ U : State, U.heap = H → s.WarmedH U.vm → ai_Pc P cl D nw nc sl ao n0 A ad h as (as.map (ai_v ad)).toArray U := by
          intro U hU hWm
          refine ⟨rfl, by rw [hU]; exact hw.moved hWm.alike, ?_, by rw [hU]; exact Nat.le_trans hn0 hS.1⟩
          rw [hU]
          exact hE.to hnk hsz0 (fun k hk => hext k hk) hWm hS.2.1
        have hroom : cells + (h1.length - h.length + ai_xn oc) ≤ R.cells ∧ slots + (ai_sz h1 - ai_sz h + 6 * ai_xn oc) ≤ R.slots := by
          cases oc with
          | inl v =>
            have h9 := ai_mono _ _ _ _ _ _ _ _ _ _ (show ai_run P n mid d w (pc + 3) lv (v.toList ++ rest) h1 = some (o, h') from hr)
            simp only [ai_xn]
            omega
          | inr t =>
            dsimp only [ai_post] at hr
            split at hr
            · split at hr
              · have h9 := ai_mono _ _ _ _ _ _ _ _ _ _ hr
                have h8 : (h1 ++ [ai_xc]).length = h1.length + 1 := by simp
                have h7 : ai_sz (h1 ++ [ai_xc]) = ai_sz h1 + 6 := by simp [ai_sz, ai_xc]
                simp only [ai_xn]
                omega
              · split at hr
                · cases hr
                  simp only [ai_xn] at hmc hms ⊢
                  omega
                · cases hr
            · cases hr
        have hR9 : d - 1 + 1 ≤ R.frames ∧ 8 + ((P.mth q.r1).maxL + 11) + (w - (8 + ((P.mth q.r1).maxL + 11))) ≤ R.locals := ⟨by omega, by omega⟩
        have hcall : ∃ a : Array Value, vx_Run p l e R s m args below meth c H locs cells slots (h1.length - h.length + ai_xn oc) (ai_sz h1 - ai_sz h + 6 * ai_xn oc) (F0 m pc ls (st.map (ai_v ad))) (rest.map (ai_v ad)) (ai_Qc P cl D n0 A ad h oc h1 a) (ai_XC P cl D n0 A ad h oc h1) A := by
          have hlen3 : q.len = 3 := by
            rcases ai_ex_call hex with ⟨idx, h9, _⟩ | ⟨idx, h9, _⟩ | ⟨idx, h9, _⟩
            · unfold ai_iok at hiok; rw [h9] at hiok; exact hiok.1
            · unfold ai_iok at hiok; rw [h9] at hiok; exact hiok
            · unfold ai_iok at hiok; rw [h9] at hiok; exact hiok.1
          rw [hlen3] at hdg
          have hnoX : (∃ v, oc = .inl v) → ∀ E st t, ¬ ai_XC P cl D n0 A ad h oc h1 E st t := by
            rintro ⟨v, rfl⟩ E st9 t9 ⟨x, ad', ho, -⟩
            cases ho
          rcases ai_ex_call hex with ⟨idx, h9, h51, hi⟩ | ⟨idx, h9, hi⟩ | ⟨idx, h9, h5, hi, a8, r8, har⟩
          · unfold ai_cok at hcok
            rw [h9] at hcok hdg
            obtain ⟨hmok, hlk, hstt, hnp⟩ := hcok.resolve_left h51
            have hmet := ai_meth (D := D) (n0 := n0) (A := A) hPO IH hrun hmok hokA hmx (by omega) ad
            obtain ⟨g1, g2, g3, g4, g5, g6⟩ := hmok
            have hin : GoodIn tb (va_wsS (P.mth mid).y.cls idx (P.mth q.r1).y (ai_ws tb (P.mth q.r1))) := ai_good hgd (fun w hw9 => by
              simp only [va_wsS, ai_ws, List.cons_append, List.nil_append, List.mem_cons] at hw9
              rcases hw9 with rfl | rfl | rfl | rfl | hw9
              · exact hlk
              · exact hstt
              · exact g3
              · exact g2
              · exact hw9)
            by_cases hem : (P.mth q.r1).hs.isEmpty = true
            · exact ⟨_, vx_runS ⟨hx, hb, hml, hown, hts⟩ hmet (va_cwS (ws' := tb) q.r2 hts hin (by unfold ai_ws ai_mw; rw [if_pos hem]) rfl rfl ⟨g4, g5, hnp⟩ hR9) ⟨ai_blind hnk ad h as, hpre⟩ rfl (by rw [List.length_map]; exact hlen) hF.1.1 hstM hWt hdg hroom⟩
            · have hoi : ∃ v, oc = .inl v := by
                cases oc with
                | inl v => exact ⟨v, rfl⟩
                | inr t =>
                  exfalso
                  have h8 : ai_thr q (P.mth q.r1) = false := by unfold ai_thr; rw [h9]; exact (Bool.not_eq_true _).mp hem
                  dsimp only [ai_post] at hr
                  rw [h8] at hr
                  cases hr
              exact ⟨_, ai_vrun (vx_runSW (hh := ai_hd4 (P.mth q.r1).hs) ⟨hx, hb, hml, hown, hts⟩ (ai_met hmet (hnoX hoi)) (vx_cwSW (ws' := tb) q.r2 hts hin (by unfold ai_ws ai_mw; rw [if_neg hem]) rfl rfl ⟨g4, g5, hnp⟩ hR9) ⟨ai_blind hnk ad h as, hpre⟩ rfl (by rw [List.length_map]; exact hlen) hF.1.1 hstM hWt hdg hroom)⟩
          · unfold ai_cok at hcok
            rw [h9] at hcok hdg
            obtain ⟨hmok, hse, hlk, hinm, hsel, ⟨k, hk, hnp⟩, t, T, N, hrv, ht, hct⟩ := hcok
            have hmet := ai_meth (D := D) (n0 := n0) (A := A) hPO IH hrun hmok hokA hmx (by omega) ad
            obtain ⟨g1, g2, g3, g4, g5, g6⟩ := hmok
            obtain ⟨-, -, -, -, hv⟩ := ai_inv_spec hi
            obtain ⟨a, as', rfl, ca, hca, hrv2⟩ := hv rfl
            have hct1 : ca.1 = t := by rw [hrv] at hrv2; cases hrv2; rfl
            have hin : GoodIn tb (wsV (P.mth mid).y.cls idx (P.mth q.r1).y.cls (P.mth q.r1).y (ai_ws tb (P.mth q.r1))) := ai_good hgd (fun w hw9 => by
              simp only [wsV, ai_ws, List.cons_append, List.nil_append, List.mem_cons] at hw9
              rcases hw9 with rfl | rfl | rfl | rfl | rfl | hw9
              · exact hlk
              · exact hinm
              · exact hsel
              · exact g3
              · exact g2
              · exact hw9)
            have hem : (P.mth q.r1).hs.isEmpty = true := by rw [hse]; rfl
            obtain ⟨r0, q1, q2, cell, q3, q4, q5, q6⟩ := (hw.1 a ca hca).1 (by omega)
            have hcellb : ∃ cellB : Cell, H[ad a]? = some cellB ∧ cellB.vm.isStatics = false ∧ s.vm.findClass (P.mth q.r1).y.cls = some cellB.cls := ⟨cell, q3, by rw [q5]; rfl, by rw [q4, hct1]; exact (hE.1.1 t _ hct).2.1⟩
            exact ⟨_, vx_runV (b := ad a) (As := as'.map (ai_v ad)) ⟨hx, hb, hml, hown, hts⟩ hmet (cwV (ws' := tb) k hts hin (by unfold ai_ws ai_mw; rw [if_pos hem]) rfl rfl ⟨rfl, g4, g5, hnp⟩ hR9) ⟨ai_blind hnk ad h _, hcellb, hpre⟩ rfl (by rw [List.length_map]; simp at hlen; omega) hF.1.1 (by rw [hstM]; simp [ai_v]) hWt hdg hroom⟩
          · unfold ai_cok at hcok
            rw [h9] at hcok hdg
            rcases hcok with h8 | ⟨hmok, hse, hrn, hlk, hinm, hini9, k, hk, hnp⟩
            · exact absurd h8 h5
            have hmet := ai_meth (D := D) (n0 := n0) (A := A) hPO IH hrun hmok hokA hmx (by omega) ad
            obtain ⟨g1, g2, g3, g4, g5, g6⟩ := hmok
            have hem : (P.mth q.r1).hs.isEmpty = true := by rw [hse]; rfl
            have hoi : ∃ v, oc = .inl v := by
              cases oc with
              | inl v => exact ⟨v, rfl⟩
              | inr t =>
                exfalso
                have h8 : ai_thr q (P.mth q.r1) = false := by unfold ai_thr; rw [h9]
                dsimp only [ai_post] at hr
                rw [h8] at hr
                cases hr
            have hmet2 := ai_met hmet (hnoX hoi)
            cases as with
            | nil => simp at hlen; omega
            | cons a0 as' =>
              have ha0 : ∃ a, a0 = .ref a := by rw [← hasE] at har; cases har; exact ⟨_, rfl⟩
              obtain ⟨a, rfl⟩ := ha0
              have hin : GoodIn tb (ai_ws tb (P.mth q.r1)) := ai_good hgd (fun w hw9 => (List.mem_cons.mp hw9).elim (fun e9 => e9 ▸ g2) (fun h => h))
              have hws9 : ai_ws tb (P.mth q.r1) = Cond.code (P.mth q.r1).y (P.mth q.r1).code (P.mth q.r1).maxL none :: tb := by unfold ai_ws ai_mw; rw [if_pos hem, hrn]
              have hlen9 : (as'.map (ai_v ad)).length = k := by rw [List.length_map]; simp at hlen; omega
              rcases hlk with hlk | ⟨host, hlk⟩
              · exact ⟨_, ai_vrun (va_runI (b := ad a) (As := as'.map (ai_v ad)) ⟨hx, hb, hml, hown, hts⟩ hmet2 (cwI (ws' := tb) k hts hin hws9 rfl rfl (hts _ g3) (hts _ hlk) (hts _ hinm) hini9 ⟨g4, g5, hnp⟩ hR9) ⟨ai_blind hnk ad h _, hpre⟩ rfl hlen9 hF.1.1 (by rw [hstM]; simp [ai_v]) hWt hdg hroom)⟩
              · exact ⟨_, ai_vrun (va_runIN (b := ad a) (As := as'.map (ai_v ad)) ⟨hx, hb, hml, hown, hts⟩ hmet2 ⟨va_cnB (ws' := tb) k hts hin hws9 rfl rfl (hE.2.2.2.1 _ hlk) (hts _ g3) ⟨g4, g5, hnp⟩ hR9, hini9, hts _ hinm⟩ ⟨ai_blind hnk ad h _, hpre⟩ rfl hlen9 hF.1.1 (by rw [hstM]; simp [ai_v]) hWt hdg hroom)⟩
        obtain ⟨a9, hcall⟩ := hcall
        refine ai_after hcall hS (fun x ad' ce q9 H1 locs1 ho hx12 he hw' hS' hce hcv hcl => ?_) (fun v ad' H1 locs1 ho he hok hw' hS' => ?_)
        · subst ho
          dsimp only [ai_post] at hr
          split at hr
          case isFalse => cases hr
          split at hr
          · rename_i tg hfd
            obtain ⟨pre, y9, suf, e1, e2, e3, e4, e5, e6⟩ := ai_find_spec hfd
            have hy9 := hhs y9 (by rw [e1]; exact List.mem_append_right _ List.mem_cons_self)
            have htb : c.exceptionTable.toList = (ai_hd4 pre).map (fun q => (⟨q.1, q.2.1, q.2.2.1, q.2.2.2⟩ : ExceptionTableEntry)) ++ (⟨y9.1, y9.2.1, y9.2.2.1, y9.2.2.2.1⟩ : ExceptionTableEntry) :: (ai_hd4 suf).map (fun q => (⟨q.1, q.2.1, q.2.2.1, q.2.2.2⟩ : ExceptionTableEntry)) := by rw [htab, e1]; simp [tableOf, ai_hd4]
            have hlk9 : (Cond.classLink (P.mth mid).y.cls y9.2.2.2.1 (ai_exn x)).before args s = true := by have := hts _ hy9.2.2; rw [e5] at this; exact this
            refine hC hown _ _ _ htb (fun z hz => ?_) (by simp [covers, e2, e3]) hy9.1 hlk9 (va_Nw.use rfl (hE.2.2.2.1 _ (hexk x hx12).1)) hce hcv hcl ?_
            · simp only [ai_hd4, List.map_map, List.mem_map] at hz
              obtain ⟨z0, hz0, rfl⟩ := hz
              have hz9 := hhs z0 (by rw [e1]; exact List.mem_append_left _ hz0)
              rcases e6 z0 hz0 with h8 | h8
              · refine Or.inl ?_
                simp only [covers, Function.comp]
                by_cases h7 : z0.1 ≤ pc
                · have : ¬ pc < z0.2.1 := fun z => h8 ⟨h7, z⟩
                  simp [this]
                · simp [h7]
              · exact Or.inr ⟨hz9.1, _, hts _ hz9.2.2, hE.2.2.2.2.2.2 _ ((hexk x hx12).2 _ hz9.2.1 (Ne.symm h8))⟩
            · have hFr : ai_F (P.mth mid).maxL ad' h1.length lv [] ls := (hF.st (st' := []) (fun v hv => by cases hv)).ext he hmo.1
              obtain ⟨hF', hmp, he'⟩ := ai_born hFr q9
              have h8 : (h1 ++ [ai_xc]).length = h1.length + 1 := by simp
              have h7 : ai_sz (h1 ++ [ai_xc]) = ai_sz h1 + 6 := by simp [ai_sz, ai_xc]
              refine W.eq (g2 := F0 m tg ls (([.ref h1.length] : List Value).map (ai_v (va_up ad' h1.length q9)))) (by rw [hmp, e4]; rfl) ?_
              exact IH mid d w tg lv [.ref h1.length] (h1 ++ [ai_xc]) o h' hr p e R s m args below meth c H1 locs1 _ _ mc ms ls _ ad0 h0 hx hb hml hret hlocks hnm hown hts hE htab hhs hRf hRl hRc hRs hn0 hP0 (fun k hk => (he' k (by omega)).trans ((he k (by omega)).trans (hext k hk))) (by omega) (by rw [h8]; exact hF') (hw'.pushX q9) hS' (by simp only [ai_xn]; omega) (by simp only [ai_xn]; omega) hmc hms
          · split at hr
            case isFalse => cases hr
            rename_i hemp
            cases hr
            have hnil : c.exceptionTable.toList = [] := by rw [htab, List.isEmpty_iff.mp hemp]; rfl
            refine vx_out (E := ai_exn x) (fun z hz => by rw [hnil] at hz; cases hz) hlocks hce hcv hcl (fun t ht hal => ⟨x, ad', rfl, hx12, rfl, fun k hk => (he k (by omega)).trans (hext k hk), by rw [ht]; exact hw'.moved hal, hS'.F ht⟩) hS'.2.2 (by simp only [ai_xn] at hmc ⊢; omega) (by simp only [ai_xn] at hms ⊢; omega)
        · subst ho
          have hr' : ai_run P n mid d w (pc + 3) lv (v.toList ++ rest) h1 = some (o, h') := hr
          have hFn : ai_F (P.mth mid).maxL ad' h1.length lv (v.toList ++ rest) ls := by
            have h8 := (hF.st hokR).ext he hmo.1
            refine ⟨h8.1, h8.2.1, fun u hu => ?_⟩
            rcases List.mem_append.mp hu with hu | hu
            · cases v with
              | none => cases hu
              | some z => rw [List.mem_singleton.mp hu]; exact hok z rfl
            · exact h8.2.2 u hu
          have hmp : (v.toList ++ rest).map (ai_v ad') = (v.map (ai_v ad')).toList ++ rest.map (ai_v ad) := by
            rw [List.map_append, ai_map_ext hokR he]
            cases v <;> rfl
          rw [← hmp]
          exact IH mid d w (pc + 3) lv (v.toList ++ rest) h1 o h' hr' p e R s m args below meth c H1 locs1 _ _ mc ms ls ad' ad0 h0 hx hb hml hret hlocks hnm hown hts hE htab hhs hRf hRl hRc hRs hn0 hP0 (fun k hk => (he k (by omega)).trans (hext k hk)) (by omega) hFn hw' hS' (by simp only [ai_xn]; omega) (by simp only [ai_xn]; omega) hmc hms
    · rename_i v hex
      cases hr
      exact ai_rets (P := P) (sl := sl) (ao := ao) (tb := tb) (nw := nw) (nm := (P.mth mid).y.name) (own := (P.mth mid).y.cls) hx hb hret hlocks hdg hiok hex hF hw hS hext (by simp only [ai_xn] at hmc; omega) (by simp only [ai_xn] at hms; omega)
    · rename_i t hex
      split at hr
      case isFalse => cases hr
      rename_i hcd
      cases hr
      obtain ⟨idx, h9, h99, rfl⟩ := ai_ex_thr hex
      unfold ai_cok at hcok
      rw [h9] at hcok
      obtain ⟨ic, h12, d3, d4, d7, hcl, hini, hat⟩ := hcok h99
      have hlen3 : q.len = 3 := by unfold ai_iok at hiok; rw [h9] at hiok; exact hiok.1
      rw [h9, hlen3] at hdg
      have hnil : c.exceptionTable.toList = [] := by rw [htab, List.isEmpty_iff.mp hcd.1]; rfl
      have hot : ∀ w, (w ∈ tb ∨ w ∈ nw) → vx_ot w = true ∧ w.before args s = true := by
        intro w hw9
        rcases hw9 with hw9 | hw9
        · exact ⟨by unfold vx_ot; rw [hgd w hw9, Bool.or_true], hts w hw9⟩
        · have hon : w.onTables = true := by
            rcases hnk w hw9 with ⟨a, i, b, n, d, hh, rfl⟩ | ⟨a, i, x, hh, rfl⟩ | ⟨C, T, rfl⟩ | ⟨x, rfl⟩ <;> rfl
          exact ⟨by unfold vx_ot; rw [hon]; rfl, va_Nw.use hon (hE.2.2.2.1 w hw9)⟩
      have hfit : Bundle.fit (ai_exn q.r1) = true := by rcases h12 with h8 | h8 <;> rw [h8] <;> decide +kernel
      refine vx_throw0 (names := ["java/lang/RuntimeException", "java/lang/Exception"]) (cls := ai_exn q.r1) hx hb hl hown hfit (by decide +kernel) (hts _ hcl) (hts _ hini) (fun w hw9 => (hot w (hat w hw9)).2) ?_ hE.2.2.2.2.1 hE.2.2.2.2.2.1 hS (by rw [hml]; exact hF.1.1) hdg d3 d4 d7 (fun z hz => by rw [hnil] at hz; cases hz) (by show 2 + 3 < R.frames; omega) (by rw [ai_wt_map]; show _ + (13 * (2 + 1) + 42) ≤ _; omega) (by simp only [ai_xn] at hmc; omega) (by simp only [ai_xn] at hms; omega) hlocks ?_ hS.2.2 (by simp only [ai_xn] at hmc; omega) (by simp only [ai_xn] at hms; omega)
      · intro w hw9
        rcases List.mem_cons.mp hw9 with rfl | hw9
        · exact (hot _ (Or.inl hcl)).1
        rcases List.mem_cons.mp hw9 with rfl | hw9
        · exact (hot _ (Or.inl hini)).1
        · exact (hot w (hat w hw9)).1
      · intro t hal hsz hk
        exact ⟨q.r1, ad, rfl, h12, rfl, hext, (hw.kept hk).moved hal, ⟨Nat.le_trans hS.1 hsz, fun z g1 g2 => (hk z (Nat.lt_of_lt_of_le g1 hS.1)).trans (hS.2.1 z g1 g2)⟩⟩
end AIZ
end
section
/-! a check of the tables by computing, and what it says -/
/-- the pool of a class: fields (entry, class, field, 1 if final and its own), methods (entry, kind, number, arguments, class), new (entry, class, fields), throws (entry, exception, the constructor's entry), arrays of references (entry, tag), casts (entry, class), constants, statics -/
abbrev ai_PL : Type := List (Nat × Nat × Nat × Nat) × List (Nat × Nat × Nat × Nat × Nat) × List (Nat × Nat × Nat) × List (Nat × Nat × Nat) × List (Nat × Nat) × List (Nat × Nat) × List (Nat × Value) × List (Nat × Value)
def ai_plok (tb nw : List Cond) (cl : List vw_C) (P : ai_P) (sl : ai_SL) (ao : List String) (own : String) (pl : ai_PL) : Prop :=
  (∀ z ∈ pl.1, z.2.1 < 100 ∧ ∃ (C : String) (T : u_T) (N : Nat), cl[z.2.1]? = some (C, T, N) ∧ z.2.2.1 < N ∧ ai_link tb own z.1 T z.2.2.1 ∧ (z.2.2.2 = 0 → (T z.2.2.1).2.2.2 = false) ∧ (z.2.2.2 = 1 → (T z.2.2.1).1 = own)) ∧
  (∀ z ∈ pl.2.1, (z.2.1 = 0 → ai_mok tb (P.mth z.2.2.1) ∧ Cond.methodLink own z.1 (P.mth z.2.2.1).y ∈ tb ∧ Cond.static (P.mth z.2.2.1).y ∈ tb ∧ ai_np (P.mth z.2.2.1).y = some z.2.2.2.1) ∧
    (z.2.1 = 1 → ai_mok tb (P.mth z.2.2.1) ∧ (P.mth z.2.2.1).hs = [] ∧ Cond.methodLink own z.1 (P.mth z.2.2.1).y ∈ tb ∧ Cond.instanceMethod (P.mth z.2.2.1).y ∈ tb ∧ Cond.selects (P.mth z.2.2.1).y.cls (P.mth z.2.2.1).y (P.mth z.2.2.1).y ∈ tb ∧ (∃ k, z.2.2.2.1 = k + 1 ∧ ai_np (P.mth z.2.2.1).y = some k) ∧ z.2.2.2.2 < 100 ∧ ∃ (T : u_T) (N : Nat), cl[z.2.2.2.2]? = some ((P.mth z.2.2.1).y.cls, T, N)) ∧
    (z.2.1 = 2 → ai_mok tb (P.mth z.2.2.1) ∧ (P.mth z.2.2.1).hs = [] ∧ (P.mth z.2.2.1).ret = none ∧ (Cond.methodLink own z.1 (P.mth z.2.2.1).y ∈ tb ∨ ∃ host, Cond.methodLinkNest own z.1 (P.mth z.2.2.1).y host ∈ nw) ∧ Cond.instanceMethod (P.mth z.2.2.1).y ∈ tb ∧ (P.mth z.2.2.1).y.name = "<init>" ∧ ∃ k, z.2.2.2.1 = k + 1 ∧ ai_np (P.mth z.2.2.1).y = some k) ∧
    (z.2.1 = 3 → Cond.methodLink own z.1 objectInit ∈ tb ∧ Cond.instanceMethod objectInit ∈ tb ∧ Cond.code objectInit ⟨#[0xb1]⟩ 1 none ∈ tb) ∧
    (z.2.1 = 4 → Cond.methodLink own z.1 arraycopyName ∈ tb ∧ Cond.native arraycopyName ∈ tb ∧ Cond.static arraycopyName ∈ tb ∧ Cond.initialized "java/lang/System" ∈ tb) ∧
    (z.2.1 = 5 → ai_mathok tb own z.1 z.2.2.1)) ∧
  (∀ z ∈ pl.2.2.1, z.2.1 < 100 ∧ ∃ (C : String) (T : u_T), cl[z.2.1]? = some (C, T, z.2.2) ∧ Cond.classLink own z.1 C ∈ tb ∧ Cond.instantiable C z.2.2 ∈ tb ∧ Cond.initialized C ∈ tb) ∧
  (∀ z ∈ pl.2.2.2.1, (z.2.1 = 1 ∨ z.2.1 = 2) ∧ Cond.classLink own z.1 (ai_exn z.2.1) ∈ tb ∧ Cond.initialized (ai_exn z.2.1) ∈ tb ∧ ∀ w ∈ vx_at0 own z.2.2 (ai_exn z.2.1) ["java/lang/RuntimeException", "java/lang/Exception"], w ∈ tb ∨ w ∈ nw) ∧
  (∀ z ∈ pl.2.2.2.2.1, ai_ty P.rc z.2 = .object (P.rc z.2) ∧ 100 ≤ z.2 ∧ Cond.classLink own z.1 (P.rc z.2) ∈ tb ∧ P.rc z.2 ∈ ao) ∧
  (∀ z ∈ pl.2.2.2.2.2.1, z.2 < 100 ∧ ∃ (C : String) (T : u_T) (N : Nat), cl[z.2]? = some (C, T, N) ∧ Cond.classLink own z.1 C ∈ tb) ∧
  (∀ z ∈ pl.2.2.2.2.2.2.1, (∀ v, z.2 = .int v → Cond.constant own z.1 v ∈ tb) ∧ ∀ v, z.2 = .long v → Cond.constantLong own z.1 v ∈ tb) ∧
  ∀ z ∈ pl.2.2.2.2.2.2.2, ∃ C n d, (C, n, d, z.2) ∈ sl ∧ (Cond.fieldLink own z.1 C n d ∈ tb ∨ ∃ host, Cond.fieldLinkNest own z.1 C n d host ∈ nw)
def ai_arrOK (rc : Nat → String) (q : ai_I) (t : ArrayType) : Bool := decide (ai_ty rc q.r1 = newarray.typeOf t) && decide (100 ≤ q.r1)
def ai_chk (rc : Nat → String) (arr : List FieldType) (pl : ai_PL) (nm : String) (cc : ByteArray) (pc : Nat) (q : ai_I) : Bool := match q.ins with
  | .iconst n => decide (q.len = 1) && decide (q.rv = .int (Int32.ofInt n))
  | .bipush n => decide (q.len = 2) && decide (q.rv = .int (Int8.ofInt n).toInt32)
  | .sipush n => decide (q.len = 3) && decide (q.rv = .int (Int16.ofInt n).toInt32)
  | .lconst n => decide (q.len = 1) && decide (q.rv = .long (Int64.ofNat (n : Nat)))
  | .ldc idx => decide (q.len = 2) && ai_isI q.rv && pl.2.2.2.2.2.2.1.any (fun z => decide (z = (idx, q.rv)))
  | .ldc_w idx => decide (q.len = 3) && ai_isI q.rv && pl.2.2.2.2.2.2.1.any (fun z => decide (z = (idx, q.rv)))
  | .ldc2_w idx => decide (q.len = 3) && ai_isJ q.rv && pl.2.2.2.2.2.2.1.any (fun z => decide (z = (idx, q.rv)))
  | .getstatic idx => decide (q.len = 3) && pl.2.2.2.2.2.2.2.any (fun z => decide (z = (idx, q.rv)))
  | .iload _ => decide (q.len = 2) | .lload _ => decide (q.len = 2) | .aload _ => decide (q.len = 2) | .istore _ => decide (q.len = 2) | .lstore _ => decide (q.len = 2) | .astore _ => decide (q.len = 2)
  | .iinc _ n => decide (q.len = 3) && decide (q.rv = .int (Int32.ofInt n))
  | .ifCond _ off => decide (q.len = 3) && decide ((pc : Int) + off = q.r1)
  | .if_icmp _ off => decide (q.len = 3) && decide ((pc : Int) + off = q.r1)
  | .if_acmp _ off => decide (q.len = 3) && decide ((pc : Int) + off = q.r1)
  | .ifnull off => decide (q.len = 3) && decide ((pc : Int) + off = q.r1)
  | .ifnonnull off => decide (q.len = 3) && decide ((pc : Int) + off = q.r1)
  | .goto off => decide (q.len = 3) && decide ((pc : Int) + off = q.r1)
  | .tableswitch .. => true
  | .getfield idx => decide (q.len = 3) && pl.1.any (fun z => z.1 == idx && z.2.1 == q.r1 && z.2.2.1 == q.r2)
  | .putfield idx => decide (q.len = 3) && pl.1.any (fun z => z.1 == idx && z.2.1 == q.r1 && z.2.2.1 == q.r2 && (z.2.2.2 == 0 || (z.2.2.2 == 1 && decide (nm = "<init>"))))
  | .new idx => decide (q.len = 3) && (if q.r2 = 9999 then (match q.rv with
      | .retAddr ic => pl.2.2.2.1.any (fun z => z.1 == idx && z.2.1 == q.r1 && z.2.2 == ic) && decide (decode cc (pc + 3) = .ok (.dup, 1)) && decide (decode cc (pc + 4) = .ok (.invokespecial ic, 3)) && decide (decode cc (pc + 7) = .ok (.athrow, 1))
      | _ => false) else pl.2.2.1.any (fun z => z.1 == idx && z.2.1 == q.r1 && z.2.2 == q.r2))
  | .newarray t => decide (q.len = 2) && ai_arrOK rc q t && arr.any (fun z => decide (z = newarray.typeOf t))
  | .anewarray idx => decide (q.len = 3) && pl.2.2.2.2.1.any (fun z => z.1 == idx && z.2 == q.r1)
  | .checkcast idx => decide (q.len = 3) && pl.2.2.2.2.2.1.any (fun z => z.1 == idx && z.2 == q.r1)
  | .invokespecial idx => decide (q.len = 3) && (if q.r1 = 5000 then pl.2.1.any (fun z => z.1 == idx && z.2.1 == 3) else pl.2.1.any (fun z => z.1 == idx && z.2.1 == 2 && z.2.2.1 == q.r1 && z.2.2.2.1 == q.r2))
  | .invokestatic idx => decide (q.len = 3) && (if q.r1 = 5001 then pl.2.1.any (fun z => z.1 == idx && z.2.1 == 4) else if 5002 ≤ q.r1 ∧ q.r1 ≤ 5004 then pl.2.1.any (fun z => z.1 == idx && z.2.1 == 5 && z.2.2.1 == q.r1) else pl.2.1.any (fun z => z.1 == idx && z.2.1 == 0 && z.2.2.1 == q.r1 && z.2.2.2.1 == q.r2))
  | .invokevirtual idx => decide (q.len = 3) && pl.2.1.any (fun z => z.1 == idx && z.2.1 == 1 && z.2.2.1 == q.r1 && z.2.2.2.1 == q.r2 && decide (q.rv = .retAddr z.2.2.2.2))
  | _ => decide (q.len = 1)
theorem ai_chk_ok {tb nw : List Cond} {cl : List vw_C} {P : ai_P} {sl : ai_SL} {ao : List String} {own : String} {pl : ai_PL} (h : ai_plok tb nw cl P sl ao own pl) {arr : List FieldType} (harr : ∀ t ∈ arr, Cond.arrayClass t ∈ tb) {nm : String} {cc : ByteArray} {pc : Nat} {q : ai_I} (hc : ai_chk P.rc arr pl nm cc pc q = true) :
    ai_iok tb nw cl P.rc sl ao own nm pc q ∧ ai_cok tb nw cl P own cc pc q := by
  obtain ⟨h1, h2, h3, h4, h5, h6, h7, h8⟩ := h
  obtain ⟨i, len, r1, r2, rv⟩ := q
  unfold ai_chk at hc
  unfold ai_iok ai_cok
  cases i with
  | ldc idx =>
    dsimp only [ai_I.ins, ai_I.len, ai_I.r1, ai_I.r2, ai_I.rv] at hc ⊢
    simp only [Bool.and_eq_true, decide_eq_true_eq, List.any_eq_true, beq_iff_eq, Bool.or_eq_true] at hc
    obtain ⟨⟨hl, hi⟩, z, hz, rfl⟩ := hc
    cases rv <;> first | (cases hi; done) | (exact ⟨⟨hl, _, rfl, (h7 _ hz).1 _ rfl⟩, trivial⟩)
  | ldc_w idx =>
    dsimp only [ai_I.ins, ai_I.len, ai_I.r1, ai_I.r2, ai_I.rv] at hc ⊢
    simp only [Bool.and_eq_true, decide_eq_true_eq, List.any_eq_true, beq_iff_eq, Bool.or_eq_true] at hc
    obtain ⟨⟨hl, hi⟩, z, hz, rfl⟩ := hc
    cases rv <;> first | (cases hi; done) | (exact ⟨⟨hl, _, rfl, (h7 _ hz).1 _ rfl⟩, trivial⟩)
  | ldc2_w idx =>
    dsimp only [ai_I.ins, ai_I.len, ai_I.r1, ai_I.r2, ai_I.rv] at hc ⊢
    simp only [Bool.and_eq_true, decide_eq_true_eq, List.any_eq_true, beq_iff_eq, Bool.or_eq_true] at hc
    obtain ⟨⟨hl, hi⟩, z, hz, rfl⟩ := hc
    cases rv <;> first | (cases hi; done) | (exact ⟨⟨hl, _, rfl, (h7 _ hz).2 _ rfl⟩, trivial⟩)
  | getstatic idx =>
    dsimp only [ai_I.ins, ai_I.len, ai_I.r1, ai_I.r2, ai_I.rv] at hc ⊢
    simp only [Bool.and_eq_true, decide_eq_true_eq, List.any_eq_true, beq_iff_eq, Bool.or_eq_true] at hc
    obtain ⟨hl, z, hz, rfl⟩ := hc
    exact ⟨⟨hl, h8 _ hz⟩, trivial⟩
  | getfield idx =>
    dsimp only [ai_I.ins, ai_I.len, ai_I.r1, ai_I.r2, ai_I.rv] at hc ⊢
    simp only [Bool.and_eq_true, decide_eq_true_eq, List.any_eq_true, beq_iff_eq, Bool.or_eq_true] at hc
    obtain ⟨hl, z, hz, ⟨e1, e2⟩, e3⟩ := hc
    obtain ⟨g1, C, T, N, g2, g3, g4, -, -⟩ := h1 z hz
    subst e1; subst e2; subst e3
    exact ⟨⟨hl, g1, C, T, N, g2, g3, g4, fun z hz => by cases hz⟩, trivial⟩
  | putfield idx =>
    dsimp only [ai_I.ins, ai_I.len, ai_I.r1, ai_I.r2, ai_I.rv] at hc ⊢
    simp only [Bool.and_eq_true, decide_eq_true_eq, List.any_eq_true, beq_iff_eq, Bool.or_eq_true] at hc
    obtain ⟨hl, z, hz, ⟨⟨e1, e2⟩, e3⟩, e4⟩ := hc
    obtain ⟨g1, C, T, N, g2, g3, g4, g5, g6⟩ := h1 z hz
    subst e1; subst e2; subst e3
    refine ⟨⟨hl, g1, C, T, N, g2, g3, g4, fun y hy hf => ?_⟩, trivial⟩
    cases hy
    rcases e4 with e4 | ⟨e4, e5⟩
    · rw [g5 e4] at hf; cases hf
    · exact ⟨e5, g6 e4⟩
  | new idx =>
    dsimp only [ai_I.ins, ai_I.len, ai_I.r1, ai_I.r2, ai_I.rv] at hc ⊢
    rw [Bool.and_eq_true, decide_eq_true_eq] at hc
    obtain ⟨hl, hc⟩ := hc
    split at hc
    · rename_i h9
      split at hc
      · rename_i ic
        simp only [Bool.and_eq_true, decide_eq_true_eq, List.any_eq_true, beq_iff_eq, Bool.or_eq_true] at hc
        obtain ⟨⟨⟨⟨z, hz, ⟨e1, e2⟩, e3⟩, d3⟩, d4⟩, d7⟩ := hc
        obtain ⟨g1, g2, g3, g4⟩ := h4 z hz
        subst e1; subst e2; subst e3
        exact ⟨⟨hl, Or.inl h9⟩, fun _ => ⟨_, g1, d3, d4, d7, g2, g3, g4⟩⟩
      · cases hc
    · rename_i h9
      simp only [Bool.and_eq_true, decide_eq_true_eq, List.any_eq_true, beq_iff_eq, Bool.or_eq_true] at hc
      obtain ⟨z, hz, ⟨e1, e2⟩, e3⟩ := hc
      obtain ⟨g1, C, T, g2, g3, g4, g5⟩ := h3 z hz
      subst e1; subst e2; subst e3
      exact ⟨⟨hl, Or.inr ⟨g1, C, T, g2, g3, g4, g5⟩⟩, fun h => absurd h h9⟩
  | newarray t =>
    dsimp only [ai_I.ins, ai_I.len, ai_I.r1, ai_I.r2, ai_I.rv] at hc ⊢
    simp only [Bool.and_eq_true, decide_eq_true_eq, List.any_eq_true, beq_iff_eq, Bool.or_eq_true] at hc
    obtain ⟨⟨hl, ha⟩, z, hz, rfl⟩ := hc
    unfold ai_arrOK at ha
    rw [Bool.and_eq_true, decide_eq_true_eq, decide_eq_true_eq] at ha
    exact ⟨⟨hl, ha.1, ha.2, harr _ hz⟩, trivial⟩
  | anewarray idx =>
    dsimp only [ai_I.ins, ai_I.len, ai_I.r1, ai_I.r2, ai_I.rv] at hc ⊢
    simp only [Bool.and_eq_true, decide_eq_true_eq, List.any_eq_true, beq_iff_eq, Bool.or_eq_true] at hc
    obtain ⟨hl, z, hz, e1, e2⟩ := hc
    obtain ⟨g1, g2, g3, g4⟩ := h5 z hz
    subst e1; subst e2
    exact ⟨⟨hl, g1, g2, g3, g4⟩, trivial⟩
  | checkcast idx =>
    dsimp only [ai_I.ins, ai_I.len, ai_I.r1, ai_I.r2, ai_I.rv] at hc ⊢
    simp only [Bool.and_eq_true, decide_eq_true_eq, List.any_eq_true, beq_iff_eq, Bool.or_eq_true] at hc
    obtain ⟨hl, z, hz, e1, e2⟩ := hc
    obtain ⟨g1, C, T, N, g2, g3⟩ := h6 z hz
    subst e1; subst e2
    exact ⟨⟨hl, g1, C, T, N, g2, g3⟩, trivial⟩
  | invokespecial idx =>
    dsimp only [ai_I.ins, ai_I.len, ai_I.r1, ai_I.r2, ai_I.rv] at hc ⊢
    rw [Bool.and_eq_true, decide_eq_true_eq] at hc
    obtain ⟨hl, hc⟩ := hc
    split at hc
    · rename_i h9
      simp only [Bool.and_eq_true, decide_eq_true_eq, List.any_eq_true, beq_iff_eq, Bool.or_eq_true] at hc
      obtain ⟨z, hz, e1, e2⟩ := hc
      subst e1
      exact ⟨⟨hl, fun _ => (h2 z hz).2.2.2.1 e2⟩, Or.inl h9⟩
    · rename_i h9
      simp only [Bool.and_eq_true, decide_eq_true_eq, List.any_eq_true, beq_iff_eq, Bool.or_eq_true] at hc
      obtain ⟨z, hz, ⟨⟨e1, e2⟩, e3⟩, e4⟩ := hc
      subst e1; subst e3; subst e4
      exact ⟨⟨hl, fun h => absurd h h9⟩, Or.inr ((h2 z hz).2.2.1 e2)⟩
  | invokestatic idx =>
    dsimp only [ai_I.ins, ai_I.len, ai_I.r1, ai_I.r2, ai_I.rv] at hc ⊢
    rw [Bool.and_eq_true, decide_eq_true_eq] at hc
    obtain ⟨hl, hc⟩ := hc
    split at hc
    · rename_i h9
      simp only [Bool.and_eq_true, decide_eq_true_eq, List.any_eq_true, beq_iff_eq, Bool.or_eq_true] at hc
      obtain ⟨z, hz, e1, e2⟩ := hc
      subst e1
      exact ⟨⟨hl, fun _ => (h2 z hz).2.2.2.2.1 e2, fun h => absurd h.1 (by omega)⟩, Or.inl (by omega)⟩
    · rename_i h9
      split at hc
      · rename_i h8
        simp only [Bool.and_eq_true, decide_eq_true_eq, List.any_eq_true, beq_iff_eq, Bool.or_eq_true] at hc
        obtain ⟨z, hz, ⟨e1, e2⟩, e3⟩ := hc
        subst e1; subst e3
        exact ⟨⟨hl, fun h => absurd h h9, fun _ => (h2 z hz).2.2.2.2.2 e2⟩, Or.inl (by omega)⟩
      · rename_i h8
        simp only [Bool.and_eq_true, decide_eq_true_eq, List.any_eq_true, beq_iff_eq, Bool.or_eq_true] at hc
        obtain ⟨z, hz, ⟨⟨e1, e2⟩, e3⟩, e4⟩ := hc
        subst e1; subst e3; subst e4
        exact ⟨⟨hl, fun h => absurd h h9, fun h => absurd h h8⟩, Or.inr ((h2 z hz).1 e2)⟩
  | invokevirtual idx =>
    dsimp only [ai_I.ins, ai_I.len, ai_I.r1, ai_I.r2, ai_I.rv] at hc ⊢
    simp only [Bool.and_eq_true, decide_eq_true_eq, List.any_eq_true, beq_iff_eq, Bool.or_eq_true] at hc
    obtain ⟨hl, z, hz, ⟨⟨⟨e1, e2⟩, e3⟩, e4⟩, e5⟩ := hc
    subst e1; subst e3; subst e4
    obtain ⟨g1, g2, g3, g4, g5, g6, g7, T, N, g8⟩ := (h2 z hz).2.1 e2
    exact ⟨hl, g1, g2, g3, g4, g5, g6, _, T, N, e5, g7, g8⟩
  | _ =>
    dsimp only [ai_I.ins, ai_I.len, ai_I.r1, ai_I.r2, ai_I.rv] at hc ⊢
    first | (exact ⟨trivial, trivial⟩) | (simp only [Bool.and_eq_true, decide_eq_true_eq] at hc; exact ⟨hc, trivial⟩)
end

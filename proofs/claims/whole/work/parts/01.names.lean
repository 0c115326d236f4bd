-- ===== PART A: goes FIRST, ahead of the names: the tables' words, and 'selects' of the private methods out of them =====
/-- a private method of a class that the tables say can be made, by its rows of tables_1 -/
def lw_okq (q : MethodName × Nat) : Prop := (q.1.cls ≠ "java/lang/invoke/MethodHandle" ∧ q.1.cls ≠ "java/lang/invoke/VarHandle") ∧ Cond.instantiable q.1.cls q.2 ∈ tables_1 ∧ Cond.privateMethod q.1 ∈ tables_1 ∧ Cond.instanceMethod q.1 ∈ tables_1
theorem lw_p0 : lw_okq (⟨"KeyStore", "appendWord", "(LKeyStore$Row;JI)I"⟩, 13) := ⟨⟨by decide +kernel, by decide +kernel⟩, List.mem_of_getElem? (i := 22) (by decide +kernel), List.mem_of_getElem? (i := 246) (by decide +kernel), List.mem_of_getElem? (i := 247) (by decide +kernel)⟩
theorem lw_p1 : lw_okq (⟨"java/lang/Throwable", "fillInStackTrace", "(I)Ljava/lang/Throwable;"⟩, 6) := ⟨⟨by decide +kernel, by decide +kernel⟩, List.mem_of_getElem? (i := 290) (by decide +kernel), List.mem_of_getElem? (i := 288) (by decide +kernel), List.mem_of_getElem? (i := 289) (by decide +kernel)⟩
theorem lw_p2 : lw_okq (⟨"KeyStore", "demandRoom", "(LKeyStore$Row;I)V"⟩, 13) := ⟨⟨by decide +kernel, by decide +kernel⟩, List.mem_of_getElem? (i := 22) (by decide +kernel), List.mem_of_getElem? (i := 319) (by decide +kernel), List.mem_of_getElem? (i := 320) (by decide +kernel)⟩
theorem lw_p3 : lw_okq (⟨"KeyStore", "demandOpen", "()V"⟩, 13) := ⟨⟨by decide +kernel, by decide +kernel⟩, List.mem_of_getElem? (i := 22) (by decide +kernel), List.mem_of_getElem? (i := 382) (by decide +kernel), List.mem_of_getElem? (i := 383) (by decide +kernel)⟩
theorem lw_p4 : lw_okq (⟨"KeyStore$Trees", "setRoot", "(II)V"⟩, 6) := ⟨⟨by decide +kernel, by decide +kernel⟩, List.mem_of_getElem? (i := 136) (by decide +kernel), List.mem_of_getElem? (i := 434) (by decide +kernel), List.mem_of_getElem? (i := 435) (by decide +kernel)⟩
theorem lw_p5 : lw_okq (⟨"KeyStore", "demandTree", "(I)V"⟩, 13) := ⟨⟨by decide +kernel, by decide +kernel⟩, List.mem_of_getElem? (i := 22) (by decide +kernel), List.mem_of_getElem? (i := 448) (by decide +kernel), List.mem_of_getElem? (i := 449) (by decide +kernel)⟩
theorem lw_p6 : lw_okq (⟨"KeyStore$Trees", "free", "(II)V"⟩, 6) := ⟨⟨by decide +kernel, by decide +kernel⟩, List.mem_of_getElem? (i := 136) (by decide +kernel), List.mem_of_getElem? (i := 483) (by decide +kernel), List.mem_of_getElem? (i := 484) (by decide +kernel)⟩
theorem lw_p7 : lw_okq (⟨"KeyStore$Trees", "rank", "(ILKeyStore$Row;Z)I"⟩, 6) := ⟨⟨by decide +kernel, by decide +kernel⟩, List.mem_of_getElem? (i := 136) (by decide +kernel), List.mem_of_getElem? (i := 533) (by decide +kernel), List.mem_of_getElem? (i := 534) (by decide +kernel)⟩
theorem lw_p8 : lw_okq (⟨"KeyStore$Chains", "write", "(LKeyStore$Row;)V"⟩, 3) := ⟨⟨by decide +kernel, by decide +kernel⟩, List.mem_of_getElem? (i := 120) (by decide +kernel), List.mem_of_getElem? (i := 572) (by decide +kernel), List.mem_of_getElem? (i := 573) (by decide +kernel)⟩
theorem lw_p9 : lw_okq (⟨"KeyStore$Trees", "insertSlot", "(II)V"⟩, 6) := ⟨⟨by decide +kernel, by decide +kernel⟩, List.mem_of_getElem? (i := 136) (by decide +kernel), List.mem_of_getElem? (i := 592) (by decide +kernel), List.mem_of_getElem? (i := 593) (by decide +kernel)⟩
theorem lw_p10 : lw_okq (⟨"KeyStore$Nodes", "setCount", "(II)V"⟩, 2) := ⟨⟨by decide +kernel, by decide +kernel⟩, List.mem_of_getElem? (i := 106) (by decide +kernel), List.mem_of_getElem? (i := 607) (by decide +kernel), List.mem_of_getElem? (i := 608) (by decide +kernel)⟩
theorem lw_p11 : lw_okq (⟨"KeyStore$Nodes", "share", "(III)V"⟩, 2) := ⟨⟨by decide +kernel, by decide +kernel⟩, List.mem_of_getElem? (i := 106) (by decide +kernel), List.mem_of_getElem? (i := 617) (by decide +kernel), List.mem_of_getElem? (i := 618) (by decide +kernel)⟩
theorem lw_p12 : lw_okq (⟨"KeyStore$Trees", "raiseRoot", "(II)V"⟩, 6) := ⟨⟨by decide +kernel, by decide +kernel⟩, List.mem_of_getElem? (i := 136) (by decide +kernel), List.mem_of_getElem? (i := 621) (by decide +kernel), List.mem_of_getElem? (i := 622) (by decide +kernel)⟩
theorem lw_p13 : lw_okq (⟨"KeyStore$Trees", "mendPath", "()V"⟩, 6) := ⟨⟨by decide +kernel, by decide +kernel⟩, List.mem_of_getElem? (i := 136) (by decide +kernel), List.mem_of_getElem? (i := 640) (by decide +kernel), List.mem_of_getElem? (i := 641) (by decide +kernel)⟩
theorem lw_p14 : lw_okq (⟨"KeyStore$Trees", "lowerRoot", "(I)V"⟩, 6) := ⟨⟨by decide +kernel, by decide +kernel⟩, List.mem_of_getElem? (i := 136) (by decide +kernel), List.mem_of_getElem? (i := 653) (by decide +kernel), List.mem_of_getElem? (i := 654) (by decide +kernel)⟩
theorem lw_p15 : lw_okq (⟨"KeyStore", "demandOn", "()V"⟩, 13) := ⟨⟨by decide +kernel, by decide +kernel⟩, List.mem_of_getElem? (i := 22) (by decide +kernel), List.mem_of_getElem? (i := 664) (by decide +kernel), List.mem_of_getElem? (i := 665) (by decide +kernel)⟩
def lw_privs_1 : List (MethodName × Nat) := [(⟨"KeyStore", "appendWord", "(LKeyStore$Row;JI)I"⟩, 13), (⟨"java/lang/Throwable", "fillInStackTrace", "(I)Ljava/lang/Throwable;"⟩, 6), (⟨"KeyStore", "demandRoom", "(LKeyStore$Row;I)V"⟩, 13), (⟨"KeyStore", "demandOpen", "()V"⟩, 13), (⟨"KeyStore$Trees", "setRoot", "(II)V"⟩, 6), (⟨"KeyStore", "demandTree", "(I)V"⟩, 13), (⟨"KeyStore$Trees", "free", "(II)V"⟩, 6), (⟨"KeyStore$Trees", "rank", "(ILKeyStore$Row;Z)I"⟩, 6), (⟨"KeyStore$Chains", "write", "(LKeyStore$Row;)V"⟩, 3), (⟨"KeyStore$Trees", "insertSlot", "(II)V"⟩, 6), (⟨"KeyStore$Nodes", "setCount", "(II)V"⟩, 2), (⟨"KeyStore$Nodes", "share", "(III)V"⟩, 2), (⟨"KeyStore$Trees", "raiseRoot", "(II)V"⟩, 6), (⟨"KeyStore$Trees", "mendPath", "()V"⟩, 6), (⟨"KeyStore$Trees", "lowerRoot", "(I)V"⟩, 6), (⟨"KeyStore", "demandOn", "()V"⟩, 13)]
theorem lw_r1 : ∀ q ∈ lw_privs_1, lw_okq q := List.forall_mem_cons.mpr ⟨lw_p0, List.forall_mem_cons.mpr ⟨lw_p1, List.forall_mem_cons.mpr ⟨lw_p2, List.forall_mem_cons.mpr ⟨lw_p3, List.forall_mem_cons.mpr ⟨lw_p4, List.forall_mem_cons.mpr ⟨lw_p5, List.forall_mem_cons.mpr ⟨lw_p6, List.forall_mem_cons.mpr ⟨lw_p7, List.forall_mem_cons.mpr ⟨lw_p8, List.forall_mem_cons.mpr ⟨lw_p9, List.forall_mem_cons.mpr ⟨lw_p10, List.forall_mem_cons.mpr ⟨lw_p11, List.forall_mem_cons.mpr ⟨lw_p12, List.forall_mem_cons.mpr ⟨lw_p13, List.forall_mem_cons.mpr ⟨lw_p14, List.forall_mem_cons.mpr ⟨lw_p15, fun _ h => absurd h List.not_mem_nil⟩⟩⟩⟩⟩⟩⟩⟩⟩⟩⟩⟩⟩⟩⟩⟩
theorem lw_p16 : lw_okq (⟨"KeyStore$Chains", "read", "(LKeyStore$Row;I)V"⟩, 3) := ⟨⟨by decide +kernel, by decide +kernel⟩, List.mem_of_getElem? (i := 120) (by decide +kernel), List.mem_of_getElem? (i := 681) (by decide +kernel), List.mem_of_getElem? (i := 682) (by decide +kernel)⟩
theorem lw_p17 : lw_okq (⟨"KeyStore", "demandFound", "()V"⟩, 13) := ⟨⟨by decide +kernel, by decide +kernel⟩, List.mem_of_getElem? (i := 22) (by decide +kernel), List.mem_of_getElem? (i := 698) (by decide +kernel), List.mem_of_getElem? (i := 699) (by decide +kernel)⟩
theorem lw_p18 : lw_okq (⟨"KeyStore$Disk", "saveOld", "(LKeyStore$Pages;)Z"⟩, 7) := ⟨⟨by decide +kernel, by decide +kernel⟩, List.mem_of_getElem? (i := 45) (by decide +kernel), List.mem_of_getElem? (i := 742) (by decide +kernel), List.mem_of_getElem? (i := 743) (by decide +kernel)⟩
theorem lw_p19 : lw_okq (⟨"KeyStore$Disk", "writeJournal", "(II)Z"⟩, 7) := ⟨⟨by decide +kernel, by decide +kernel⟩, List.mem_of_getElem? (i := 45) (by decide +kernel), List.mem_of_getElem? (i := 750) (by decide +kernel), List.mem_of_getElem? (i := 751) (by decide +kernel)⟩
theorem lw_p20 : lw_okq (⟨"KeyStore$Disk", "bytesWritten", "(III)I"⟩, 7) := ⟨⟨by decide +kernel, by decide +kernel⟩, List.mem_of_getElem? (i := 45) (by decide +kernel), List.mem_of_getElem? (i := 755) (by decide +kernel), List.mem_of_getElem? (i := 756) (by decide +kernel)⟩
theorem lw_p21 : lw_okq (⟨"KeyStore$Disk", "fails", "(II)Z"⟩, 7) := ⟨⟨by decide +kernel, by decide +kernel⟩, List.mem_of_getElem? (i := 45) (by decide +kernel), List.mem_of_getElem? (i := 759) (by decide +kernel), List.mem_of_getElem? (i := 760) (by decide +kernel)⟩
theorem lw_p22 : lw_okq (⟨"KeyStore$Disk", "saveNew", "(LKeyStore$Pages;)Z"⟩, 7) := ⟨⟨by decide +kernel, by decide +kernel⟩, List.mem_of_getElem? (i := 45) (by decide +kernel), List.mem_of_getElem? (i := 764) (by decide +kernel), List.mem_of_getElem? (i := 765) (by decide +kernel)⟩
theorem lw_p23 : lw_okq (⟨"KeyStore$Disk", "writeFile", "(III[BI)Z"⟩, 7) := ⟨⟨by decide +kernel, by decide +kernel⟩, List.mem_of_getElem? (i := 45) (by decide +kernel), List.mem_of_getElem? (i := 769) (by decide +kernel), List.mem_of_getElem? (i := 770) (by decide +kernel)⟩
theorem lw_p24 : lw_okq (⟨"KeyStore$Disk", "endSave", "()Z"⟩, 7) := ⟨⟨by decide +kernel, by decide +kernel⟩, List.mem_of_getElem? (i := 45) (by decide +kernel), List.mem_of_getElem? (i := 773) (by decide +kernel), List.mem_of_getElem? (i := 774) (by decide +kernel)⟩
theorem lw_p25 : lw_okq (⟨"KeyStore", "endTransaction", "()V"⟩, 13) := ⟨⟨by decide +kernel, by decide +kernel⟩, List.mem_of_getElem? (i := 22) (by decide +kernel), List.mem_of_getElem? (i := 777) (by decide +kernel), List.mem_of_getElem? (i := 778) (by decide +kernel)⟩
theorem lw_p26 : lw_okq (⟨"KeyStore", "losePower", "()V"⟩, 13) := ⟨⟨by decide +kernel, by decide +kernel⟩, List.mem_of_getElem? (i := 22) (by decide +kernel), List.mem_of_getElem? (i := 785) (by decide +kernel), List.mem_of_getElem? (i := 786) (by decide +kernel)⟩
theorem lw_p27 : lw_okq (⟨"KeyStore", "demandMark", "(I)V"⟩, 13) := ⟨⟨by decide +kernel, by decide +kernel⟩, List.mem_of_getElem? (i := 22) (by decide +kernel), List.mem_of_getElem? (i := 852) (by decide +kernel), List.mem_of_getElem? (i := 853) (by decide +kernel)⟩
theorem lw_p28 : lw_okq (⟨"KeyStore$Checker", "forgetClaims", "()V"⟩, 9) := ⟨⟨by decide +kernel, by decide +kernel⟩, List.mem_of_getElem? (i := 161) (by decide +kernel), List.mem_of_getElem? (i := 936) (by decide +kernel), List.mem_of_getElem? (i := 937) (by decide +kernel)⟩
theorem lw_p29 : lw_okq (⟨"KeyStore$Checker", "expect", "(Z)V"⟩, 9) := ⟨⟨by decide +kernel, by decide +kernel⟩, List.mem_of_getElem? (i := 161) (by decide +kernel), List.mem_of_getElem? (i := 942) (by decide +kernel), List.mem_of_getElem? (i := 943) (by decide +kernel)⟩
theorem lw_p30 : lw_okq (⟨"KeyStore$Checker", "claimFree", "()V"⟩, 9) := ⟨⟨by decide +kernel, by decide +kernel⟩, List.mem_of_getElem? (i := 161) (by decide +kernel), List.mem_of_getElem? (i := 946) (by decide +kernel), List.mem_of_getElem? (i := 947) (by decide +kernel)⟩
theorem lw_p31 : lw_okq (⟨"KeyStore$Checker", "claimChain", "(I)I"⟩, 9) := ⟨⟨by decide +kernel, by decide +kernel⟩, List.mem_of_getElem? (i := 161) (by decide +kernel), List.mem_of_getElem? (i := 950) (by decide +kernel), List.mem_of_getElem? (i := 951) (by decide +kernel)⟩
def lw_privs_2 : List (MethodName × Nat) := [(⟨"KeyStore$Chains", "read", "(LKeyStore$Row;I)V"⟩, 3), (⟨"KeyStore", "demandFound", "()V"⟩, 13), (⟨"KeyStore$Disk", "saveOld", "(LKeyStore$Pages;)Z"⟩, 7), (⟨"KeyStore$Disk", "writeJournal", "(II)Z"⟩, 7), (⟨"KeyStore$Disk", "bytesWritten", "(III)I"⟩, 7), (⟨"KeyStore$Disk", "fails", "(II)Z"⟩, 7), (⟨"KeyStore$Disk", "saveNew", "(LKeyStore$Pages;)Z"⟩, 7), (⟨"KeyStore$Disk", "writeFile", "(III[BI)Z"⟩, 7), (⟨"KeyStore$Disk", "endSave", "()Z"⟩, 7), (⟨"KeyStore", "endTransaction", "()V"⟩, 13), (⟨"KeyStore", "losePower", "()V"⟩, 13), (⟨"KeyStore", "demandMark", "(I)V"⟩, 13), (⟨"KeyStore$Checker", "forgetClaims", "()V"⟩, 9), (⟨"KeyStore$Checker", "expect", "(Z)V"⟩, 9), (⟨"KeyStore$Checker", "claimFree", "()V"⟩, 9), (⟨"KeyStore$Checker", "claimChain", "(I)I"⟩, 9)]
theorem lw_r2 : ∀ q ∈ lw_privs_2, lw_okq q := List.forall_mem_cons.mpr ⟨lw_p16, List.forall_mem_cons.mpr ⟨lw_p17, List.forall_mem_cons.mpr ⟨lw_p18, List.forall_mem_cons.mpr ⟨lw_p19, List.forall_mem_cons.mpr ⟨lw_p20, List.forall_mem_cons.mpr ⟨lw_p21, List.forall_mem_cons.mpr ⟨lw_p22, List.forall_mem_cons.mpr ⟨lw_p23, List.forall_mem_cons.mpr ⟨lw_p24, List.forall_mem_cons.mpr ⟨lw_p25, List.forall_mem_cons.mpr ⟨lw_p26, List.forall_mem_cons.mpr ⟨lw_p27, List.forall_mem_cons.mpr ⟨lw_p28, List.forall_mem_cons.mpr ⟨lw_p29, List.forall_mem_cons.mpr ⟨lw_p30, List.forall_mem_cons.mpr ⟨lw_p31, fun _ h => absurd h List.not_mem_nil⟩⟩⟩⟩⟩⟩⟩⟩⟩⟩⟩⟩⟩⟩⟩⟩
theorem lw_p32 : lw_okq (⟨"KeyStore$Checker", "claim", "(I)Z"⟩, 9) := ⟨⟨by decide +kernel, by decide +kernel⟩, List.mem_of_getElem? (i := 161) (by decide +kernel), List.mem_of_getElem? (i := 954) (by decide +kernel), List.mem_of_getElem? (i := 955) (by decide +kernel)⟩
theorem lw_p33 : lw_okq (⟨"KeyStore$Checker", "walk", "(III)V"⟩, 9) := ⟨⟨by decide +kernel, by decide +kernel⟩, List.mem_of_getElem? (i := 161) (by decide +kernel), List.mem_of_getElem? (i := 962) (by decide +kernel), List.mem_of_getElem? (i := 963) (by decide +kernel)⟩
theorem lw_p34 : lw_okq (⟨"KeyStore$Checker", "examine", "(III)V"⟩, 9) := ⟨⟨by decide +kernel, by decide +kernel⟩, List.mem_of_getElem? (i := 161) (by decide +kernel), List.mem_of_getElem? (i := 969) (by decide +kernel), List.mem_of_getElem? (i := 970) (by decide +kernel)⟩
theorem lw_p35 : lw_okq (⟨"KeyStore$Checker", "expectAllClaimed", "()V"⟩, 9) := ⟨⟨by decide +kernel, by decide +kernel⟩, List.mem_of_getElem? (i := 161) (by decide +kernel), List.mem_of_getElem? (i := 989) (by decide +kernel), List.mem_of_getElem? (i := 990) (by decide +kernel)⟩
theorem lw_p36 : lw_okq (⟨"KeyStoreModel", "word", "(ZJI)I"⟩, 26) := ⟨⟨by decide +kernel, by decide +kernel⟩, List.mem_of_getElem? (i := 993) (by decide +kernel), List.mem_of_getElem? (i := 1088) (by decide +kernel), List.mem_of_getElem? (i := 1089) (by decide +kernel)⟩
theorem lw_p37 : lw_okq (⟨"KeyStoreModel", "room", "(ZIII)Z"⟩, 26) := ⟨⟨by decide +kernel, by decide +kernel⟩, List.mem_of_getElem? (i := 993) (by decide +kernel), List.mem_of_getElem? (i := 1092) (by decide +kernel), List.mem_of_getElem? (i := 1093) (by decide +kernel)⟩
theorem lw_p38 : lw_okq (⟨"KeyStoreModel", "come", "(ZI)I"⟩, 26) := ⟨⟨by decide +kernel, by decide +kernel⟩, List.mem_of_getElem? (i := 993) (by decide +kernel), List.mem_of_getElem? (i := 1096) (by decide +kernel), List.mem_of_getElem? (i := 1097) (by decide +kernel)⟩
theorem lw_p39 : lw_okq (⟨"KeyStoreModel", "isTree", "(I)Z"⟩, 26) := ⟨⟨by decide +kernel, by decide +kernel⟩, List.mem_of_getElem? (i := 993) (by decide +kernel), List.mem_of_getElem? (i := 1112) (by decide +kernel), List.mem_of_getElem? (i := 1113) (by decide +kernel)⟩
theorem lw_p40 : lw_okq (⟨"KeyStoreModel", "fails", "(ZI)Z"⟩, 26) := ⟨⟨by decide +kernel, by decide +kernel⟩, List.mem_of_getElem? (i := 993) (by decide +kernel), List.mem_of_getElem? (i := 1120) (by decide +kernel), List.mem_of_getElem? (i := 1121) (by decide +kernel)⟩
theorem lw_p41 : lw_okq (⟨"KeyStoreModel", "entries", "(I)I"⟩, 26) := ⟨⟨by decide +kernel, by decide +kernel⟩, List.mem_of_getElem? (i := 993) (by decide +kernel), List.mem_of_getElem? (i := 1124) (by decide +kernel), List.mem_of_getElem? (i := 1125) (by decide +kernel)⟩
theorem lw_p42 : lw_okq (⟨"KeyStoreModel", "find", "(I)I"⟩, 26) := ⟨⟨by decide +kernel, by decide +kernel⟩, List.mem_of_getElem? (i := 993) (by decide +kernel), List.mem_of_getElem? (i := 1133) (by decide +kernel), List.mem_of_getElem? (i := 1134) (by decide +kernel)⟩
theorem lw_p43 : lw_okq (⟨"KeyStoreModel", "compare", "(I)I"⟩, 26) := ⟨⟨by decide +kernel, by decide +kernel⟩, List.mem_of_getElem? (i := 993) (by decide +kernel), List.mem_of_getElem? (i := 1137) (by decide +kernel), List.mem_of_getElem? (i := 1138) (by decide +kernel)⟩
theorem lw_p44 : lw_okq (⟨"KeyStoreModel", "isThere", "(II)Z"⟩, 26) := ⟨⟨by decide +kernel, by decide +kernel⟩, List.mem_of_getElem? (i := 993) (by decide +kernel), List.mem_of_getElem? (i := 1141) (by decide +kernel), List.mem_of_getElem? (i := 1142) (by decide +kernel)⟩
theorem lw_p45 : lw_okq (⟨"KeyStoreModel", "size", "()I"⟩, 26) := ⟨⟨by decide +kernel, by decide +kernel⟩, List.mem_of_getElem? (i := 993) (by decide +kernel), List.mem_of_getElem? (i := 1145) (by decide +kernel), List.mem_of_getElem? (i := 1146) (by decide +kernel)⟩
theorem lw_p46 : lw_okq (⟨"KeyStoreModel", "out", "(I)V"⟩, 26) := ⟨⟨by decide +kernel, by decide +kernel⟩, List.mem_of_getElem? (i := 993) (by decide +kernel), List.mem_of_getElem? (i := 1150) (by decide +kernel), List.mem_of_getElem? (i := 1151) (by decide +kernel)⟩
theorem lw_p47 : lw_okq (⟨"KeyStoreModel", "entry", "(I)I"⟩, 26) := ⟨⟨by decide +kernel, by decide +kernel⟩, List.mem_of_getElem? (i := 993) (by decide +kernel), List.mem_of_getElem? (i := 1154) (by decide +kernel), List.mem_of_getElem? (i := 1155) (by decide +kernel)⟩
def lw_privs_3 : List (MethodName × Nat) := [(⟨"KeyStore$Checker", "claim", "(I)Z"⟩, 9), (⟨"KeyStore$Checker", "walk", "(III)V"⟩, 9), (⟨"KeyStore$Checker", "examine", "(III)V"⟩, 9), (⟨"KeyStore$Checker", "expectAllClaimed", "()V"⟩, 9), (⟨"KeyStoreModel", "word", "(ZJI)I"⟩, 26), (⟨"KeyStoreModel", "room", "(ZIII)Z"⟩, 26), (⟨"KeyStoreModel", "come", "(ZI)I"⟩, 26), (⟨"KeyStoreModel", "isTree", "(I)Z"⟩, 26), (⟨"KeyStoreModel", "fails", "(ZI)Z"⟩, 26), (⟨"KeyStoreModel", "entries", "(I)I"⟩, 26), (⟨"KeyStoreModel", "find", "(I)I"⟩, 26), (⟨"KeyStoreModel", "compare", "(I)I"⟩, 26), (⟨"KeyStoreModel", "isThere", "(II)Z"⟩, 26), (⟨"KeyStoreModel", "size", "()I"⟩, 26), (⟨"KeyStoreModel", "out", "(I)V"⟩, 26), (⟨"KeyStoreModel", "entry", "(I)I"⟩, 26)]
theorem lw_r3 : ∀ q ∈ lw_privs_3, lw_okq q := List.forall_mem_cons.mpr ⟨lw_p32, List.forall_mem_cons.mpr ⟨lw_p33, List.forall_mem_cons.mpr ⟨lw_p34, List.forall_mem_cons.mpr ⟨lw_p35, List.forall_mem_cons.mpr ⟨lw_p36, List.forall_mem_cons.mpr ⟨lw_p37, List.forall_mem_cons.mpr ⟨lw_p38, List.forall_mem_cons.mpr ⟨lw_p39, List.forall_mem_cons.mpr ⟨lw_p40, List.forall_mem_cons.mpr ⟨lw_p41, List.forall_mem_cons.mpr ⟨lw_p42, List.forall_mem_cons.mpr ⟨lw_p43, List.forall_mem_cons.mpr ⟨lw_p44, List.forall_mem_cons.mpr ⟨lw_p45, List.forall_mem_cons.mpr ⟨lw_p46, List.forall_mem_cons.mpr ⟨lw_p47, fun _ h => absurd h List.not_mem_nil⟩⟩⟩⟩⟩⟩⟩⟩⟩⟩⟩⟩⟩⟩⟩⟩
theorem lw_p48 : lw_okq (⟨"KeyStoreModel", "pack", "()V"⟩, 26) := ⟨⟨by decide +kernel, by decide +kernel⟩, List.mem_of_getElem? (i := 993) (by decide +kernel), List.mem_of_getElem? (i := 1158) (by decide +kernel), List.mem_of_getElem? (i := 1159) (by decide +kernel)⟩
theorem lw_p49 : lw_okq (⟨"KeyStoreModel", "isShut", "(Z)Z"⟩, 26) := ⟨⟨by decide +kernel, by decide +kernel⟩, List.mem_of_getElem? (i := 993) (by decide +kernel), List.mem_of_getElem? (i := 1182) (by decide +kernel), List.mem_of_getElem? (i := 1183) (by decide +kernel)⟩
theorem lw_p50 : lw_okq (⟨"KeyStoreModel", "copy", "(II)V"⟩, 26) := ⟨⟨by decide +kernel, by decide +kernel⟩, List.mem_of_getElem? (i := 993) (by decide +kernel), List.mem_of_getElem? (i := 1190) (by decide +kernel), List.mem_of_getElem? (i := 1191) (by decide +kernel)⟩
theorem lw_p51 : lw_okq (⟨"KeyStoreModel", "end", "()V"⟩, 26) := ⟨⟨by decide +kernel, by decide +kernel⟩, List.mem_of_getElem? (i := 993) (by decide +kernel), List.mem_of_getElem? (i := 1194) (by decide +kernel), List.mem_of_getElem? (i := 1195) (by decide +kernel)⟩
theorem lw_p52 : lw_okq (⟨"KeyStoreModel", "fall", "()V"⟩, 26) := ⟨⟨by decide +kernel, by decide +kernel⟩, List.mem_of_getElem? (i := 993) (by decide +kernel), List.mem_of_getElem? (i := 1198) (by decide +kernel), List.mem_of_getElem? (i := 1199) (by decide +kernel)⟩
theorem lw_p53 : lw_okq (⟨"KeyStoreModel", "isMark", "(I)Z"⟩, 26) := ⟨⟨by decide +kernel, by decide +kernel⟩, List.mem_of_getElem? (i := 993) (by decide +kernel), List.mem_of_getElem? (i := 1214) (by decide +kernel), List.mem_of_getElem? (i := 1215) (by decide +kernel)⟩
theorem lw_p54 : lw_okq (⟨"KeyStoreModel", "count", "()I"⟩, 26) := ⟨⟨by decide +kernel, by decide +kernel⟩, List.mem_of_getElem? (i := 993) (by decide +kernel), List.mem_of_getElem? (i := 1230) (by decide +kernel), List.mem_of_getElem? (i := 1231) (by decide +kernel)⟩
def lw_privs_4 : List (MethodName × Nat) := [(⟨"KeyStoreModel", "pack", "()V"⟩, 26), (⟨"KeyStoreModel", "isShut", "(Z)Z"⟩, 26), (⟨"KeyStoreModel", "copy", "(II)V"⟩, 26), (⟨"KeyStoreModel", "end", "()V"⟩, 26), (⟨"KeyStoreModel", "fall", "()V"⟩, 26), (⟨"KeyStoreModel", "isMark", "(I)Z"⟩, 26), (⟨"KeyStoreModel", "count", "()I"⟩, 26)]
theorem lw_r4 : ∀ q ∈ lw_privs_4, lw_okq q := List.forall_mem_cons.mpr ⟨lw_p48, List.forall_mem_cons.mpr ⟨lw_p49, List.forall_mem_cons.mpr ⟨lw_p50, List.forall_mem_cons.mpr ⟨lw_p51, List.forall_mem_cons.mpr ⟨lw_p52, List.forall_mem_cons.mpr ⟨lw_p53, List.forall_mem_cons.mpr ⟨lw_p54, fun _ h => absurd h List.not_mem_nil⟩⟩⟩⟩⟩⟩⟩
def lw_privs : List (MethodName × Nat) := lw_privs_1 ++ (lw_privs_2 ++ (lw_privs_3 ++ (lw_privs_4)))
def lw_tbl : List Cond := k2_sels lw_privs ++ tables_1
theorem lw_privs_ok : ∀ q ∈ lw_privs, lw_okq q := by
  show ∀ q ∈ lw_privs_1 ++ (lw_privs_2 ++ (lw_privs_3 ++ (lw_privs_4))), lw_okq q
  exact List.forall_mem_append.mpr ⟨lw_r1, List.forall_mem_append.mpr ⟨lw_r2, List.forall_mem_append.mpr ⟨lw_r3, lw_r4⟩⟩⟩
/-! the words that a callee may take over; names of the classes, their fields, the methods -/
def ks_tbl : List Cond := lw_tbl.filter goodWord
theorem ks_mem {w : Cond} (h : w ∈ lw_tbl) (g : goodWord w = true) : w ∈ ks_tbl := List.mem_filter.mpr ⟨h, g⟩
theorem ks_tblGood : ∀ w ∈ ks_tbl, (w.onTables && w.keeps) = true ∨ ∃ ty, w = .arrayClass ty := fun w h => good_of_word (List.mem_filter.mp h).2
theorem ks_tbl_lw : ∀ w ∈ ks_tbl, w ∈ lw_tbl := fun w h => (List.mem_filter.mp h).1
def R_Row : String := "KeyStore$Row"
def F_Row : u_T := fun k => match k with
  | 0 => ("KeyStore$Row", "bytes", "[B", true)
  | _ => ("KeyStore$Row", "length", "I", false)
def t_Row : Nat → FieldType := fun k => match k with
  | 0 => .array .byte
  | _ => .int
theorem nm_Row : ∀ a, a < 2 → ∀ b, b < 2 → a ≠ b → (F_Row a).2.1 ≠ (F_Row b).2.1 := by decide +kernel
theorem ty_Row : ∀ k, k < 2 → parseFieldDescriptor (F_Row k).2.2.1 = some (t_Row k) := by decide +kernel
theorem in0_Row : ∀ w ∈ u_ws R_Row F_Row 2, w ∈ lw_tbl := by decide +kernel
theorem in_Row : ∀ w ∈ u_ws R_Row F_Row 2, w ∈ ks_tbl := fun w h => ks_mem (in0_Row w h) (List.all_eq_true.mp (by decide +kernel : (u_ws R_Row F_Row 2).all goodWord = true) w h)
def R_Pages : String := "KeyStore$Pages"
def F_Pages : u_T := fun k => match k with
  | 0 => ("KeyStore$Pages", "bytes", "[B", true)
  | _ => ("KeyStore$Pages", "changed", "[Z", true)
def t_Pages : Nat → FieldType := fun k => match k with
  | 0 => .array .byte
  | _ => .array .boolean
theorem nm_Pages : ∀ a, a < 2 → ∀ b, b < 2 → a ≠ b → (F_Pages a).2.1 ≠ (F_Pages b).2.1 := by decide +kernel
theorem ty_Pages : ∀ k, k < 2 → parseFieldDescriptor (F_Pages k).2.2.1 = some (t_Pages k) := by decide +kernel
theorem in0_Pages : ∀ w ∈ u_ws R_Pages F_Pages 2, w ∈ lw_tbl := by decide +kernel
theorem in_Pages : ∀ w ∈ u_ws R_Pages F_Pages 2, w ∈ ks_tbl := fun w h => ks_mem (in0_Pages w h) (List.all_eq_true.mp (by decide +kernel : (u_ws R_Pages F_Pages 2).all goodWord = true) w h)
def R_Disk : String := "KeyStore$Disk"
def F_Disk : u_T := fun k => match k with
  | 0 => ("KeyStore$Disk", "file", "[B", true)
  | 1 => ("KeyStore$Disk", "journal", "[B", true)
  | 2 => ("KeyStore$Disk", "record", "[B", true)
  | 3 => ("KeyStore$Disk", "journalLength", "I", false)
  | 4 => ("KeyStore$Disk", "failWhen", "I", false)
  | 5 => ("KeyStore$Disk", "failWrite", "I", false)
  | _ => ("KeyStore$Disk", "failBytes", "I", false)
def t_Disk : Nat → FieldType := fun k => match k with
  | 0 => .array .byte
  | 1 => .array .byte
  | 2 => .array .byte
  | 3 => .int
  | 4 => .int
  | 5 => .int
  | _ => .int
theorem nm_Disk : ∀ a, a < 7 → ∀ b, b < 7 → a ≠ b → (F_Disk a).2.1 ≠ (F_Disk b).2.1 := by decide +kernel
theorem ty_Disk : ∀ k, k < 7 → parseFieldDescriptor (F_Disk k).2.2.1 = some (t_Disk k) := by decide +kernel
theorem in0_Disk : ∀ w ∈ u_ws R_Disk F_Disk 7, w ∈ lw_tbl := by decide +kernel
theorem in_Disk : ∀ w ∈ u_ws R_Disk F_Disk 7, w ∈ ks_tbl := fun w h => ks_mem (in0_Disk w h) (List.all_eq_true.mp (by decide +kernel : (u_ws R_Disk F_Disk 7).all goodWord = true) w h)
def R_Marks : String := "KeyStore$Marks"
def F_Marks : u_T := fun k => match k with
  | 0 => ("KeyStore$Marks", "saved", "[[B", true)
  | _ => ("KeyStore$Marks", "count", "I", false)
def t_Marks : Nat → FieldType := fun k => match k with
  | 0 => .array (.array .byte)
  | _ => .int
theorem nm_Marks : ∀ a, a < 2 → ∀ b, b < 2 → a ≠ b → (F_Marks a).2.1 ≠ (F_Marks b).2.1 := by decide +kernel
theorem ty_Marks : ∀ k, k < 2 → parseFieldDescriptor (F_Marks k).2.2.1 = some (t_Marks k) := by decide +kernel
theorem in0_Marks : ∀ w ∈ u_ws R_Marks F_Marks 2, w ∈ lw_tbl := by decide +kernel
theorem in_Marks : ∀ w ∈ u_ws R_Marks F_Marks 2, w ∈ ks_tbl := fun w h => ks_mem (in0_Marks w h) (List.all_eq_true.mp (by decide +kernel : (u_ws R_Marks F_Marks 2).all goodWord = true) w h)
def R_Chains : String := "KeyStore$Chains"
def F_Chains : u_T := fun k => match k with
  | 0 => ("KeyStore$Chains", "pages", "LKeyStore$Pages;", true)
  | 1 => ("KeyStore$Chains", "page", "I", false)
  | _ => ("KeyStore$Chains", "at", "I", false)
def t_Chains : Nat → FieldType := fun k => match k with
  | 0 => .object "KeyStore$Pages"
  | 1 => .int
  | _ => .int
theorem nm_Chains : ∀ a, a < 3 → ∀ b, b < 3 → a ≠ b → (F_Chains a).2.1 ≠ (F_Chains b).2.1 := by decide +kernel
theorem ty_Chains : ∀ k, k < 3 → parseFieldDescriptor (F_Chains k).2.2.1 = some (t_Chains k) := by decide +kernel
theorem in0_Chains : ∀ w ∈ u_ws R_Chains F_Chains 3, w ∈ lw_tbl := by decide +kernel
theorem in_Chains : ∀ w ∈ u_ws R_Chains F_Chains 3, w ∈ ks_tbl := fun w h => ks_mem (in0_Chains w h) (List.all_eq_true.mp (by decide +kernel : (u_ws R_Chains F_Chains 3).all goodWord = true) w h)
def R_Nodes : String := "KeyStore$Nodes"
def F_Nodes : u_T := fun k => match k with
  | 0 => ("KeyStore$Nodes", "pages", "LKeyStore$Pages;", true)
  | _ => ("KeyStore$Nodes", "gathered", "[I", true)
def t_Nodes : Nat → FieldType := fun k => match k with
  | 0 => .object "KeyStore$Pages"
  | _ => .array .int
theorem nm_Nodes : ∀ a, a < 2 → ∀ b, b < 2 → a ≠ b → (F_Nodes a).2.1 ≠ (F_Nodes b).2.1 := by decide +kernel
theorem ty_Nodes : ∀ k, k < 2 → parseFieldDescriptor (F_Nodes k).2.2.1 = some (t_Nodes k) := by decide +kernel
theorem in0_Nodes : ∀ w ∈ u_ws R_Nodes F_Nodes 2, w ∈ lw_tbl := by decide +kernel
theorem in_Nodes : ∀ w ∈ u_ws R_Nodes F_Nodes 2, w ∈ ks_tbl := fun w h => ks_mem (in0_Nodes w h) (List.all_eq_true.mp (by decide +kernel : (u_ws R_Nodes F_Nodes 2).all goodWord = true) w h)
def R_Trees : String := "KeyStore$Trees"
def F_Trees : u_T := fun k => match k with
  | 0 => ("KeyStore$Trees", "pages", "LKeyStore$Pages;", true)
  | 1 => ("KeyStore$Trees", "nodes", "LKeyStore$Nodes;", true)
  | 2 => ("KeyStore$Trees", "chains", "LKeyStore$Chains;", true)
  | 3 => ("KeyStore$Trees", "pathNode", "[I", true)
  | 4 => ("KeyStore$Trees", "pathSlot", "[I", true)
  | _ => ("KeyStore$Trees", "top", "I", false)
def t_Trees : Nat → FieldType := fun k => match k with
  | 0 => .object "KeyStore$Pages"
  | 1 => .object "KeyStore$Nodes"
  | 2 => .object "KeyStore$Chains"
  | 3 => .array .int
  | 4 => .array .int
  | _ => .int
theorem nm_Trees : ∀ a, a < 6 → ∀ b, b < 6 → a ≠ b → (F_Trees a).2.1 ≠ (F_Trees b).2.1 := by decide +kernel
theorem ty_Trees : ∀ k, k < 6 → parseFieldDescriptor (F_Trees k).2.2.1 = some (t_Trees k) := by decide +kernel
theorem in0_Trees : ∀ w ∈ u_ws R_Trees F_Trees 6, w ∈ lw_tbl := by decide +kernel
theorem in_Trees : ∀ w ∈ u_ws R_Trees F_Trees 6, w ∈ ks_tbl := fun w h => ks_mem (in0_Trees w h) (List.all_eq_true.mp (by decide +kernel : (u_ws R_Trees F_Trees 6).all goodWord = true) w h)
def R_Checker : String := "KeyStore$Checker"
def F_Checker : u_T := fun k => match k with
  | 0 => ("KeyStore$Checker", "pages", "LKeyStore$Pages;", true)
  | 1 => ("KeyStore$Checker", "nodes", "LKeyStore$Nodes;", true)
  | 2 => ("KeyStore$Checker", "chains", "LKeyStore$Chains;", true)
  | 3 => ("KeyStore$Checker", "trees", "LKeyStore$Trees;", true)
  | 4 => ("KeyStore$Checker", "claimed", "[Z", true)
  | 5 => ("KeyStore$Checker", "last", "LKeyStore$Row;", true)
  | 6 => ("KeyStore$Checker", "wrong", "I", false)
  | 7 => ("KeyStore$Checker", "entries", "I", false)
  | _ => ("KeyStore$Checker", "size", "I", false)
def t_Checker : Nat → FieldType := fun k => match k with
  | 0 => .object "KeyStore$Pages"
  | 1 => .object "KeyStore$Nodes"
  | 2 => .object "KeyStore$Chains"
  | 3 => .object "KeyStore$Trees"
  | 4 => .array .boolean
  | 5 => .object "KeyStore$Row"
  | 6 => .int
  | 7 => .int
  | _ => .int
theorem nm_Checker : ∀ a, a < 9 → ∀ b, b < 9 → a ≠ b → (F_Checker a).2.1 ≠ (F_Checker b).2.1 := by decide +kernel
theorem ty_Checker : ∀ k, k < 9 → parseFieldDescriptor (F_Checker k).2.2.1 = some (t_Checker k) := by decide +kernel
theorem in0_Checker : ∀ w ∈ u_ws R_Checker F_Checker 9, w ∈ lw_tbl := by decide +kernel
theorem in_Checker : ∀ w ∈ u_ws R_Checker F_Checker 9, w ∈ ks_tbl := fun w h => ks_mem (in0_Checker w h) (List.all_eq_true.mp (by decide +kernel : (u_ws R_Checker F_Checker 9).all goodWord = true) w h)
def R_Store : String := "KeyStore"
def F_Store : u_T := fun k => match k with
  | 0 => ("KeyStore", "theKey", "LKeyStore$Row;", true)
  | 1 => ("KeyStore", "theValue", "LKeyStore$Row;", true)
  | 2 => ("KeyStore", "foundKey", "LKeyStore$Row;", true)
  | 3 => ("KeyStore", "foundValue", "LKeyStore$Row;", true)
  | 4 => ("KeyStore", "disk", "LKeyStore$Disk;", true)
  | 5 => ("KeyStore", "pages", "LKeyStore$Pages;", true)
  | 6 => ("KeyStore", "marks", "LKeyStore$Marks;", true)
  | 7 => ("KeyStore", "chains", "LKeyStore$Chains;", true)
  | 8 => ("KeyStore", "trees", "LKeyStore$Trees;", true)
  | 9 => ("KeyStore", "checker", "LKeyStore$Checker;", true)
  | 10 => ("KeyStore", "isFound", "Z", false)
  | 11 => ("KeyStore", "isOn", "Z", false)
  | _ => ("KeyStore", "isOpen", "Z", false)
def t_Store : Nat → FieldType := fun k => match k with
  | 0 => .object "KeyStore$Row"
  | 1 => .object "KeyStore$Row"
  | 2 => .object "KeyStore$Row"
  | 3 => .object "KeyStore$Row"
  | 4 => .object "KeyStore$Disk"
  | 5 => .object "KeyStore$Pages"
  | 6 => .object "KeyStore$Marks"
  | 7 => .object "KeyStore$Chains"
  | 8 => .object "KeyStore$Trees"
  | 9 => .object "KeyStore$Checker"
  | 10 => .boolean
  | 11 => .boolean
  | _ => .boolean
theorem nm_Store : ∀ a, a < 13 → ∀ b, b < 13 → a ≠ b → (F_Store a).2.1 ≠ (F_Store b).2.1 := by decide +kernel
theorem ty_Store : ∀ k, k < 13 → parseFieldDescriptor (F_Store k).2.2.1 = some (t_Store k) := by decide +kernel
theorem in0_Store : ∀ w ∈ u_ws R_Store F_Store 13, w ∈ lw_tbl := by decide +kernel
theorem in_Store : ∀ w ∈ u_ws R_Store F_Store 13, w ∈ ks_tbl := fun w h => ks_mem (in0_Store w h) (List.all_eq_true.mp (by decide +kernel : (u_ws R_Store F_Store 13).all goodWord = true) w h)
def R_Model : String := "KeyStoreModel"
def F_Model : u_T := fun k => match k with
  | 0 => ("KeyStoreModel", "treeOf", "[I", true)
  | 1 => ("KeyStoreModel", "place", "[I", true)
  | 2 => ("KeyStoreModel", "keySize", "[I", true)
  | 3 => ("KeyStoreModel", "valueSize", "[I", true)
  | 4 => ("KeyStoreModel", "moved", "[I", true)
  | 5 => ("KeyStoreModel", "bytes", "[B", true)
  | 6 => ("KeyStoreModel", "records", "I", false)
  | 7 => ("KeyStoreModel", "used", "I", false)
  | 8 => ("KeyStoreModel", "list", "[I", true)
  | 9 => ("KeyStoreModel", "many", "[I", true)
  | 10 => ("KeyStoreModel", "trees", "[J", true)
  | 11 => ("KeyStoreModel", "key", "[B", true)
  | 12 => ("KeyStoreModel", "value", "[B", true)
  | 13 => ("KeyStoreModel", "foundKey", "[B", true)
  | 14 => ("KeyStoreModel", "foundValue", "[B", true)
  | 15 => ("KeyStoreModel", "keys", "I", false)
  | 16 => ("KeyStoreModel", "values", "I", false)
  | 17 => ("KeyStoreModel", "foundKeys", "I", false)
  | 18 => ("KeyStoreModel", "foundValues", "I", false)
  | 19 => ("KeyStoreModel", "marks", "I", false)
  | 20 => ("KeyStoreModel", "isOff", "Z", false)
  | 21 => ("KeyStoreModel", "isOpen", "Z", false)
  | 22 => ("KeyStoreModel", "isFound", "Z", false)
  | 23 => ("KeyStoreModel", "when", "I", false)
  | 24 => ("KeyStoreModel", "after", "I", false)
  | _ => ("KeyStoreModel", "thrown", "I", false)
def t_Model : Nat → FieldType := fun k => match k with
  | 0 => .array .int
  | 1 => .array .int
  | 2 => .array .int
  | 3 => .array .int
  | 4 => .array .int
  | 5 => .array .byte
  | 6 => .int
  | 7 => .int
  | 8 => .array .int
  | 9 => .array .int
  | 10 => .array .long
  | 11 => .array .byte
  | 12 => .array .byte
  | 13 => .array .byte
  | 14 => .array .byte
  | 15 => .int
  | 16 => .int
  | 17 => .int
  | 18 => .int
  | 19 => .int
  | 20 => .boolean
  | 21 => .boolean
  | 22 => .boolean
  | 23 => .int
  | 24 => .int
  | _ => .int
theorem nm_Model : ∀ a, a < 26 → ∀ b, b < 26 → a ≠ b → (F_Model a).2.1 ≠ (F_Model b).2.1 := by decide +kernel
theorem ty_Model : ∀ k, k < 26 → parseFieldDescriptor (F_Model k).2.2.1 = some (t_Model k) := by decide +kernel
theorem in0_Model : ∀ w ∈ u_ws R_Model F_Model 26, w ∈ lw_tbl := by decide +kernel
theorem in_Model : ∀ w ∈ u_ws R_Model F_Model 26, w ∈ ks_tbl := fun w h => ks_mem (in0_Model w h) (List.all_eq_true.mp (by decide +kernel : (u_ws R_Model F_Model 26).all goodWord = true) w h)
abbrev vwCl : List vw_C := [(R_Row, F_Row, 2), (R_Pages, F_Pages, 2), (R_Disk, F_Disk, 7), (R_Marks, F_Marks, 2), (R_Chains, F_Chains, 3), (R_Nodes, F_Nodes, 2), (R_Trees, F_Trees, 6), (R_Checker, F_Checker, 9), (R_Store, F_Store, 13), (R_Model, F_Model, 26)]
def y_Store_init : MethodName := ⟨"KeyStore", "<init>", "()V"⟩
abbrev b_Store_init : ByteArray := prog_1_method_1_code
def y_Store_key : MethodName := ⟨"KeyStore", "key", "(JI)I"⟩
abbrev b_Store_key : ByteArray := prog_1_method_2_code
def y_Store_value : MethodName := ⟨"KeyStore", "value", "(JI)I"⟩
abbrev b_Store_value : ByteArray := prog_1_method_3_code
def y_Store_fill : MethodName := ⟨"KeyStore", "fill", "(ZII)I"⟩
abbrev b_Store_fill : ByteArray := prog_1_method_4_code
def y_Store_tree : MethodName := ⟨"KeyStore", "tree", "()I"⟩
abbrev b_Store_tree : ByteArray := prog_1_method_5_code
def y_Store_drop : MethodName := ⟨"KeyStore", "drop", "(I)I"⟩
abbrev b_Store_drop : ByteArray := prog_1_method_6_code
def y_Store_put : MethodName := ⟨"KeyStore", "put", "(I)Z"⟩
abbrev b_Store_put : ByteArray := prog_1_method_7_code
def y_Store_remove : MethodName := ⟨"KeyStore", "remove", "(I)Z"⟩
abbrev b_Store_remove : ByteArray := prog_1_method_8_code
def y_Store_seek : MethodName := ⟨"KeyStore", "seek", "(IZ)Z"⟩
abbrev b_Store_seek : ByteArray := prog_1_method_9_code
def y_Store_take : MethodName := ⟨"KeyStore", "take", "()I"⟩
abbrev b_Store_take : ByteArray := prog_1_method_10_code
def y_Store_found : MethodName := ⟨"KeyStore", "found", "(II)J"⟩
abbrev b_Store_found : ByteArray := prog_1_method_11_code
def y_Store_begin : MethodName := ⟨"KeyStore", "begin", "()V"⟩
abbrev b_Store_begin : ByteArray := prog_1_method_12_code
def y_Store_commit : MethodName := ⟨"KeyStore", "commit", "()V"⟩
abbrev b_Store_commit : ByteArray := prog_1_method_13_code
def y_Store_rollback : MethodName := ⟨"KeyStore", "rollback", "()V"⟩
abbrev b_Store_rollback : ByteArray := prog_1_method_14_code
def y_Store_mark : MethodName := ⟨"KeyStore", "mark", "()I"⟩
abbrev b_Store_mark : ByteArray := prog_1_method_15_code
def y_Store_back : MethodName := ⟨"KeyStore", "back", "(I)V"⟩
abbrev b_Store_back : ByteArray := prog_1_method_16_code
def y_Store_keep : MethodName := ⟨"KeyStore", "keep", "(I)V"⟩
abbrev b_Store_keep : ByteArray := prog_1_method_17_code
def y_Store_power : MethodName := ⟨"KeyStore", "power", "(III)V"⟩
abbrev b_Store_power : ByteArray := prog_1_method_18_code
def y_Store_reopen : MethodName := ⟨"KeyStore", "reopen", "()I"⟩
abbrev b_Store_reopen : ByteArray := prog_1_method_19_code
def y_Store_told : MethodName := ⟨"KeyStore", "told", "(I)I"⟩
abbrev b_Store_told : ByteArray := prog_1_method_20_code
def y_Store_check : MethodName := ⟨"KeyStore", "check", "()I"⟩
abbrev b_Store_check : ByteArray := prog_1_method_21_code
def y_Store_appendWord : MethodName := ⟨"KeyStore", "appendWord", "(LKeyStore$Row;JI)I"⟩
abbrev b_Store_appendWord : ByteArray := prog_1_method_22_code
def y_Store_demandOn : MethodName := ⟨"KeyStore", "demandOn", "()V"⟩
abbrev b_Store_demandOn : ByteArray := prog_1_method_23_code
def y_Store_demandOpen : MethodName := ⟨"KeyStore", "demandOpen", "()V"⟩
abbrev b_Store_demandOpen : ByteArray := prog_1_method_24_code
def y_Store_demandRoom : MethodName := ⟨"KeyStore", "demandRoom", "(LKeyStore$Row;I)V"⟩
abbrev b_Store_demandRoom : ByteArray := prog_1_method_25_code
def y_Store_demandTree : MethodName := ⟨"KeyStore", "demandTree", "(I)V"⟩
abbrev b_Store_demandTree : ByteArray := prog_1_method_26_code
def y_Store_demandFound : MethodName := ⟨"KeyStore", "demandFound", "()V"⟩
abbrev b_Store_demandFound : ByteArray := prog_1_method_27_code
def y_Store_demandMark : MethodName := ⟨"KeyStore", "demandMark", "(I)V"⟩
abbrev b_Store_demandMark : ByteArray := prog_1_method_28_code
def y_Store_endTransaction : MethodName := ⟨"KeyStore", "endTransaction", "()V"⟩
abbrev b_Store_endTransaction : ByteArray := prog_1_method_29_code
def y_Store_losePower : MethodName := ⟨"KeyStore", "losePower", "()V"⟩
abbrev b_Store_losePower : ByteArray := prog_1_method_30_code
def y_Model_init : MethodName := ⟨"KeyStoreModel", "<init>", "()V"⟩
abbrev b_Model_init : ByteArray := prog_11_method_1_code
def y_Model_thrown : MethodName := ⟨"KeyStoreModel", "thrown", "()I"⟩
abbrev b_Model_thrown : ByteArray := prog_11_method_2_code
def y_Model_room : MethodName := ⟨"KeyStoreModel", "room", "(ZIII)Z"⟩
abbrev b_Model_room : ByteArray := prog_11_method_3_code
def y_Model_come : MethodName := ⟨"KeyStoreModel", "come", "(ZI)I"⟩
abbrev b_Model_come : ByteArray := prog_11_method_4_code
def y_Model_word : MethodName := ⟨"KeyStoreModel", "word", "(ZJI)I"⟩
abbrev b_Model_word : ByteArray := prog_11_method_5_code
def y_Model_key : MethodName := ⟨"KeyStoreModel", "key", "(JI)I"⟩
abbrev b_Model_key : ByteArray := prog_11_method_6_code
def y_Model_value : MethodName := ⟨"KeyStoreModel", "value", "(JI)I"⟩
abbrev b_Model_value : ByteArray := prog_11_method_7_code
def y_Model_fill : MethodName := ⟨"KeyStoreModel", "fill", "(ZII)I"⟩
abbrev b_Model_fill : ByteArray := prog_11_method_8_code
def y_Model_size : MethodName := ⟨"KeyStoreModel", "size", "()I"⟩
abbrev b_Model_size : ByteArray := prog_11_method_9_code
def y_Model_entries : MethodName := ⟨"KeyStoreModel", "entries", "(I)I"⟩
abbrev b_Model_entries : ByteArray := prog_11_method_10_code
def y_Model_compare : MethodName := ⟨"KeyStoreModel", "compare", "(I)I"⟩
abbrev b_Model_compare : ByteArray := prog_11_method_11_code
def y_Model_find : MethodName := ⟨"KeyStoreModel", "find", "(I)I"⟩
abbrev b_Model_find : ByteArray := prog_11_method_12_code
def y_Model_isThere : MethodName := ⟨"KeyStoreModel", "isThere", "(II)Z"⟩
abbrev b_Model_isThere : ByteArray := prog_11_method_13_code
def y_Model_copy : MethodName := ⟨"KeyStoreModel", "copy", "(II)V"⟩
abbrev b_Model_copy : ByteArray := prog_11_method_14_code
def y_Model_pack : MethodName := ⟨"KeyStoreModel", "pack", "()V"⟩
abbrev b_Model_pack : ByteArray := prog_11_method_15_code
def y_Model_entry : MethodName := ⟨"KeyStoreModel", "entry", "(I)I"⟩
abbrev b_Model_entry : ByteArray := prog_11_method_16_code
def y_Model_isTree : MethodName := ⟨"KeyStoreModel", "isTree", "(I)Z"⟩
abbrev b_Model_isTree : ByteArray := prog_11_method_17_code
def y_Model_fails : MethodName := ⟨"KeyStoreModel", "fails", "(ZI)Z"⟩
abbrev b_Model_fails : ByteArray := prog_11_method_18_code
def y_Model_tree : MethodName := ⟨"KeyStoreModel", "tree", "()I"⟩
abbrev b_Model_tree : ByteArray := prog_11_method_19_code
def y_Model_drop : MethodName := ⟨"KeyStoreModel", "drop", "(I)I"⟩
abbrev b_Model_drop : ByteArray := prog_11_method_20_code
def y_Model_out : MethodName := ⟨"KeyStoreModel", "out", "(I)V"⟩
abbrev b_Model_out : ByteArray := prog_11_method_21_code
def y_Model_put : MethodName := ⟨"KeyStoreModel", "put", "(I)Z"⟩
abbrev b_Model_put : ByteArray := prog_11_method_22_code
def y_Model_remove : MethodName := ⟨"KeyStoreModel", "remove", "(I)Z"⟩
abbrev b_Model_remove : ByteArray := prog_11_method_23_code
def y_Model_seek : MethodName := ⟨"KeyStoreModel", "seek", "(IZ)Z"⟩
abbrev b_Model_seek : ByteArray := prog_11_method_24_code
def y_Model_take : MethodName := ⟨"KeyStoreModel", "take", "()I"⟩
abbrev b_Model_take : ByteArray := prog_11_method_25_code
def y_Model_found : MethodName := ⟨"KeyStoreModel", "found", "(II)J"⟩
abbrev b_Model_found : ByteArray := prog_11_method_26_code
def y_Model_isShut : MethodName := ⟨"KeyStoreModel", "isShut", "(Z)Z"⟩
abbrev b_Model_isShut : ByteArray := prog_11_method_27_code
def y_Model_begin : MethodName := ⟨"KeyStoreModel", "begin", "()V"⟩
abbrev b_Model_begin : ByteArray := prog_11_method_28_code
def y_Model_end : MethodName := ⟨"KeyStoreModel", "end", "()V"⟩
abbrev b_Model_end : ByteArray := prog_11_method_29_code
def y_Model_fall : MethodName := ⟨"KeyStoreModel", "fall", "()V"⟩
abbrev b_Model_fall : ByteArray := prog_11_method_30_code
def y_Model_commit : MethodName := ⟨"KeyStoreModel", "commit", "()V"⟩
abbrev b_Model_commit : ByteArray := prog_11_method_31_code
def y_Model_rollback : MethodName := ⟨"KeyStoreModel", "rollback", "()V"⟩
abbrev b_Model_rollback : ByteArray := prog_11_method_32_code
def y_Model_mark : MethodName := ⟨"KeyStoreModel", "mark", "()I"⟩
abbrev b_Model_mark : ByteArray := prog_11_method_33_code
def y_Model_isMark : MethodName := ⟨"KeyStoreModel", "isMark", "(I)Z"⟩
abbrev b_Model_isMark : ByteArray := prog_11_method_34_code
def y_Model_back : MethodName := ⟨"KeyStoreModel", "back", "(I)V"⟩
abbrev b_Model_back : ByteArray := prog_11_method_35_code
def y_Model_keep : MethodName := ⟨"KeyStoreModel", "keep", "(I)V"⟩
abbrev b_Model_keep : ByteArray := prog_11_method_36_code
def y_Model_power : MethodName := ⟨"KeyStoreModel", "power", "(III)V"⟩
abbrev b_Model_power : ByteArray := prog_11_method_37_code
def y_Model_count : MethodName := ⟨"KeyStoreModel", "count", "()I"⟩
abbrev b_Model_count : ByteArray := prog_11_method_38_code
def y_Model_reopen : MethodName := ⟨"KeyStoreModel", "reopen", "()I"⟩
abbrev b_Model_reopen : ByteArray := prog_11_method_39_code
def y_Model_told : MethodName := ⟨"KeyStoreModel", "told", "(I)I"⟩
abbrev b_Model_told : ByteArray := prog_11_method_40_code
def y_Model_check : MethodName := ⟨"KeyStoreModel", "check", "()I"⟩
abbrev b_Model_check : ByteArray := prog_11_method_41_code
def y_Chains_init : MethodName := ⟨"KeyStore$Chains", "<init>", "(LKeyStore$Pages;)V"⟩
abbrev b_Chains_init : ByteArray := prog_2_method_1_code
def y_Chains_keyLength : MethodName := ⟨"KeyStore$Chains", "keyLength", "(I)I"⟩
abbrev b_Chains_keyLength : ByteArray := prog_2_method_2_code
def y_Chains_valueLength : MethodName := ⟨"KeyStore$Chains", "valueLength", "(I)I"⟩
abbrev b_Chains_valueLength : ByteArray := prog_2_method_3_code
def y_Chains_size : MethodName := ⟨"KeyStore$Chains", "size", "(I)I"⟩
abbrev b_Chains_size : ByteArray := prog_2_method_4_code
def y_Chains_pagesFor : MethodName := ⟨"KeyStore$Chains", "pagesFor", "(I)I"⟩
abbrev b_Chains_pagesFor : ByteArray := prog_2_method_5_code
def y_Chains_store : MethodName := ⟨"KeyStore$Chains", "store", "(LKeyStore$Row;LKeyStore$Row;)I"⟩
abbrev b_Chains_store : ByteArray := prog_2_method_6_code
def y_Chains_free : MethodName := ⟨"KeyStore$Chains", "free", "(I)V"⟩
abbrev b_Chains_free : ByteArray := prog_2_method_7_code
def y_Chains_copyTo : MethodName := ⟨"KeyStore$Chains", "copyTo", "(ILKeyStore$Row;LKeyStore$Row;)V"⟩
abbrev b_Chains_copyTo : ByteArray := prog_2_method_8_code
def y_Chains_copyKeyTo : MethodName := ⟨"KeyStore$Chains", "copyKeyTo", "(ILKeyStore$Row;)V"⟩
abbrev b_Chains_copyKeyTo : ByteArray := prog_2_method_9_code
def y_Chains_compare : MethodName := ⟨"KeyStore$Chains", "compare", "(LKeyStore$Row;I)I"⟩
abbrev b_Chains_compare : ByteArray := prog_2_method_10_code
def y_Chains_write : MethodName := ⟨"KeyStore$Chains", "write", "(LKeyStore$Row;)V"⟩
abbrev b_Chains_write : ByteArray := prog_2_method_11_code
def y_Chains_read : MethodName := ⟨"KeyStore$Chains", "read", "(LKeyStore$Row;I)V"⟩
abbrev b_Chains_read : ByteArray := prog_2_method_12_code
def y_Checker_init : MethodName := ⟨"KeyStore$Checker", "<init>", "(LKeyStore$Pages;LKeyStore$Nodes;LKeyStore$Chains;LKeyStore$Trees;)V"⟩
abbrev b_Checker_init : ByteArray := prog_3_method_1_code
def y_Checker_faults : MethodName := ⟨"KeyStore$Checker", "faults", "()I"⟩
abbrev b_Checker_faults : ByteArray := prog_3_method_2_code
def y_Checker_expect : MethodName := ⟨"KeyStore$Checker", "expect", "(Z)V"⟩
abbrev b_Checker_expect : ByteArray := prog_3_method_3_code
def y_Checker_forgetClaims : MethodName := ⟨"KeyStore$Checker", "forgetClaims", "()V"⟩
abbrev b_Checker_forgetClaims : ByteArray := prog_3_method_4_code
def y_Checker_claim : MethodName := ⟨"KeyStore$Checker", "claim", "(I)Z"⟩
abbrev b_Checker_claim : ByteArray := prog_3_method_5_code
def y_Checker_expectAllClaimed : MethodName := ⟨"KeyStore$Checker", "expectAllClaimed", "()V"⟩
abbrev b_Checker_expectAllClaimed : ByteArray := prog_3_method_6_code
def y_Checker_claimFree : MethodName := ⟨"KeyStore$Checker", "claimFree", "()V"⟩
abbrev b_Checker_claimFree : ByteArray := prog_3_method_7_code
def y_Checker_claimChain : MethodName := ⟨"KeyStore$Checker", "claimChain", "(I)I"⟩
abbrev b_Checker_claimChain : ByteArray := prog_3_method_8_code
def y_Checker_walk : MethodName := ⟨"KeyStore$Checker", "walk", "(III)V"⟩
abbrev b_Checker_walk : ByteArray := prog_3_method_9_code
def y_Checker_examine : MethodName := ⟨"KeyStore$Checker", "examine", "(III)V"⟩
abbrev b_Checker_examine : ByteArray := prog_3_method_10_code
def y_Disk_init : MethodName := ⟨"KeyStore$Disk", "<init>", "()V"⟩
abbrev b_Disk_init : ByteArray := prog_4_method_1_code
def y_Disk_plan : MethodName := ⟨"KeyStore$Disk", "plan", "(III)V"⟩
abbrev b_Disk_plan : ByteArray := prog_4_method_2_code
def y_Disk_save : MethodName := ⟨"KeyStore$Disk", "save", "(LKeyStore$Pages;)Z"⟩
abbrev b_Disk_save : ByteArray := prog_4_method_3_code
def y_Disk_recover : MethodName := ⟨"KeyStore$Disk", "recover", "()Z"⟩
abbrev b_Disk_recover : ByteArray := prog_4_method_4_code
def y_Disk_load : MethodName := ⟨"KeyStore$Disk", "load", "(LKeyStore$Pages;)V"⟩
abbrev b_Disk_load : ByteArray := prog_4_method_5_code
def y_Disk_undo : MethodName := ⟨"KeyStore$Disk", "undo", "(LKeyStore$Pages;)V"⟩
abbrev b_Disk_undo : ByteArray := prog_4_method_6_code
def y_Disk_saveOld : MethodName := ⟨"KeyStore$Disk", "saveOld", "(LKeyStore$Pages;)Z"⟩
abbrev b_Disk_saveOld : ByteArray := prog_4_method_7_code
def y_Disk_saveNew : MethodName := ⟨"KeyStore$Disk", "saveNew", "(LKeyStore$Pages;)Z"⟩
abbrev b_Disk_saveNew : ByteArray := prog_4_method_8_code
def y_Disk_endSave : MethodName := ⟨"KeyStore$Disk", "endSave", "()Z"⟩
abbrev b_Disk_endSave : ByteArray := prog_4_method_9_code
def y_Disk_writeJournal : MethodName := ⟨"KeyStore$Disk", "writeJournal", "(II)Z"⟩
abbrev b_Disk_writeJournal : ByteArray := prog_4_method_10_code
def y_Disk_writeFile : MethodName := ⟨"KeyStore$Disk", "writeFile", "(III[BI)Z"⟩
abbrev b_Disk_writeFile : ByteArray := prog_4_method_11_code
def y_Disk_fails : MethodName := ⟨"KeyStore$Disk", "fails", "(II)Z"⟩
abbrev b_Disk_fails : ByteArray := prog_4_method_12_code
def y_Disk_bytesWritten : MethodName := ⟨"KeyStore$Disk", "bytesWritten", "(III)I"⟩
abbrev b_Disk_bytesWritten : ByteArray := prog_4_method_13_code
def y_Marks_init : MethodName := ⟨"KeyStore$Marks", "<init>", "()V"⟩
abbrev b_Marks_init : ByteArray := prog_5_method_1_code
def y_Marks_count : MethodName := ⟨"KeyStore$Marks", "count", "()I"⟩
abbrev b_Marks_count : ByteArray := prog_5_method_2_code
def y_Marks_add : MethodName := ⟨"KeyStore$Marks", "add", "(LKeyStore$Pages;)V"⟩
abbrev b_Marks_add : ByteArray := prog_5_method_3_code
def y_Marks_restore : MethodName := ⟨"KeyStore$Marks", "restore", "(ILKeyStore$Pages;)V"⟩
abbrev b_Marks_restore : ByteArray := prog_5_method_4_code
def y_Marks_forgetAbove : MethodName := ⟨"KeyStore$Marks", "forgetAbove", "(I)V"⟩
abbrev b_Marks_forgetAbove : ByteArray := prog_5_method_5_code
def y_Nodes_init : MethodName := ⟨"KeyStore$Nodes", "<init>", "(LKeyStore$Pages;)V"⟩
abbrev b_Nodes_init : ByteArray := prog_6_method_1_code
def y_Nodes_make : MethodName := ⟨"KeyStore$Nodes", "make", "(I)I"⟩
abbrev b_Nodes_make : ByteArray := prog_6_method_2_code
def y_Nodes_level : MethodName := ⟨"KeyStore$Nodes", "level", "(I)I"⟩
abbrev b_Nodes_level : ByteArray := prog_6_method_3_code
def y_Nodes_count : MethodName := ⟨"KeyStore$Nodes", "count", "(I)I"⟩
abbrev b_Nodes_count : ByteArray := prog_6_method_4_code
def y_Nodes_slot : MethodName := ⟨"KeyStore$Nodes", "slot", "(II)I"⟩
abbrev b_Nodes_slot : ByteArray := prog_6_method_5_code
def y_Nodes_least : MethodName := ⟨"KeyStore$Nodes", "least", "(II)I"⟩
abbrev b_Nodes_least : ByteArray := prog_6_method_6_code
def y_Nodes_isFull : MethodName := ⟨"KeyStore$Nodes", "isFull", "(I)Z"⟩
abbrev b_Nodes_isFull : ByteArray := prog_6_method_7_code
def y_Nodes_isSparse : MethodName := ⟨"KeyStore$Nodes", "isSparse", "(I)Z"⟩
abbrev b_Nodes_isSparse : ByteArray := prog_6_method_8_code
def y_Nodes_insert : MethodName := ⟨"KeyStore$Nodes", "insert", "(III)V"⟩
abbrev b_Nodes_insert : ByteArray := prog_6_method_9_code
def y_Nodes_delete : MethodName := ⟨"KeyStore$Nodes", "delete", "(II)V"⟩
abbrev b_Nodes_delete : ByteArray := prog_6_method_10_code
def y_Nodes_setSlot : MethodName := ⟨"KeyStore$Nodes", "setSlot", "(III)V"⟩
abbrev b_Nodes_setSlot : ByteArray := prog_6_method_11_code
def y_Nodes_split : MethodName := ⟨"KeyStore$Nodes", "split", "(I)I"⟩
abbrev b_Nodes_split : ByteArray := prog_6_method_12_code
def y_Nodes_merge : MethodName := ⟨"KeyStore$Nodes", "merge", "(II)Z"⟩
abbrev b_Nodes_merge : ByteArray := prog_6_method_13_code
def y_Nodes_share : MethodName := ⟨"KeyStore$Nodes", "share", "(III)V"⟩
abbrev b_Nodes_share : ByteArray := prog_6_method_14_code
def y_Nodes_setCount : MethodName := ⟨"KeyStore$Nodes", "setCount", "(II)V"⟩
abbrev b_Nodes_setCount : ByteArray := prog_6_method_15_code
def y_Pages_init : MethodName := ⟨"KeyStore$Pages", "<init>", "()V"⟩
abbrev b_Pages_init : ByteArray := prog_7_method_1_code
def y_Pages_bytes : MethodName := ⟨"KeyStore$Pages", "bytes", "()[B"⟩
abbrev b_Pages_bytes : ByteArray := prog_7_method_2_code
def y_Pages_isChanged : MethodName := ⟨"KeyStore$Pages", "isChanged", "(I)Z"⟩
abbrev b_Pages_isChanged : ByteArray := prog_7_method_3_code
def y_Pages_forgetChanges : MethodName := ⟨"KeyStore$Pages", "forgetChanges", "()V"⟩
abbrev b_Pages_forgetChanges : ByteArray := prog_7_method_4_code
def y_Pages_undoChanges : MethodName := ⟨"KeyStore$Pages", "undoChanges", "([B)V"⟩
abbrev b_Pages_undoChanges : ByteArray := prog_7_method_5_code
def y_Pages_used : MethodName := ⟨"KeyStore$Pages", "used", "()I"⟩
abbrev b_Pages_used : ByteArray := prog_7_method_6_code
def y_Pages_saveTo : MethodName := ⟨"KeyStore$Pages", "saveTo", "([B)V"⟩
abbrev b_Pages_saveTo : ByteArray := prog_7_method_7_code
def y_Pages_load : MethodName := ⟨"KeyStore$Pages", "load", "([B)V"⟩
abbrev b_Pages_load : ByteArray := prog_7_method_8_code
def y_Pages_number : MethodName := ⟨"KeyStore$Pages", "number", "(I)I"⟩
abbrev b_Pages_number : ByteArray := prog_7_method_9_code
def y_Pages_setNumber : MethodName := ⟨"KeyStore$Pages", "setNumber", "(II)V"⟩
abbrev b_Pages_setNumber : ByteArray := prog_7_method_10_code
def y_Pages_addTo : MethodName := ⟨"KeyStore$Pages", "addTo", "(II)V"⟩
abbrev b_Pages_addTo : ByteArray := prog_7_method_11_code
def y_Pages_write : MethodName := ⟨"KeyStore$Pages", "write", "(LKeyStore$Row;III)V"⟩
abbrev b_Pages_write : ByteArray := prog_7_method_12_code
def y_Pages_newPage : MethodName := ⟨"KeyStore$Pages", "newPage", "()I"⟩
abbrev b_Pages_newPage : ByteArray := prog_7_method_13_code
def y_Pages_freePage : MethodName := ⟨"KeyStore$Pages", "freePage", "(I)V"⟩
abbrev b_Pages_freePage : ByteArray := prog_7_method_14_code
def y_Row_init : MethodName := ⟨"KeyStore$Row", "<init>", "()V"⟩
abbrev b_Row_init : ByteArray := prog_8_method_1_code
def y_Row_length : MethodName := ⟨"KeyStore$Row", "length", "()I"⟩
abbrev b_Row_length : ByteArray := prog_8_method_2_code
def y_Row_clear : MethodName := ⟨"KeyStore$Row", "clear", "()V"⟩
abbrev b_Row_clear : ByteArray := prog_8_method_3_code
def y_Row_hasRoom : MethodName := ⟨"KeyStore$Row", "hasRoom", "(I)Z"⟩
abbrev b_Row_hasRoom : ByteArray := prog_8_method_4_code
def y_Row_append : MethodName := ⟨"KeyStore$Row", "append", "(JI)V"⟩
abbrev b_Row_append : ByteArray := prog_8_method_5_code
def y_Row_appendSame : MethodName := ⟨"KeyStore$Row", "appendSame", "(II)V"⟩
abbrev b_Row_appendSame : ByteArray := prog_8_method_6_code
def y_Row_appendFrom : MethodName := ⟨"KeyStore$Row", "appendFrom", "([BII)V"⟩
abbrev b_Row_appendFrom : ByteArray := prog_8_method_7_code
def y_Row_become : MethodName := ⟨"KeyStore$Row", "become", "(LKeyStore$Row;)V"⟩
abbrev b_Row_become : ByteArray := prog_8_method_8_code
def y_Row_word : MethodName := ⟨"KeyStore$Row", "word", "(I)J"⟩
abbrev b_Row_word : ByteArray := prog_8_method_9_code
def y_Row_difference : MethodName := ⟨"KeyStore$Row", "difference", "(II[BI)I"⟩
abbrev b_Row_difference : ByteArray := prog_8_method_10_code
def y_Trees_init : MethodName := ⟨"KeyStore$Trees", "<init>", "(LKeyStore$Pages;LKeyStore$Nodes;LKeyStore$Chains;)V"⟩
abbrev b_Trees_init : ByteArray := prog_9_method_1_code
def y_Trees_has : MethodName := ⟨"KeyStore$Trees", "has", "(I)Z"⟩
abbrev b_Trees_has : ByteArray := prog_9_method_2_code
def y_Trees_root : MethodName := ⟨"KeyStore$Trees", "root", "(I)I"⟩
abbrev b_Trees_root : ByteArray := prog_9_method_3_code
def y_Trees_entries : MethodName := ⟨"KeyStore$Trees", "entries", "(I)I"⟩
abbrev b_Trees_entries : ByteArray := prog_9_method_4_code
def y_Trees_leastUnused : MethodName := ⟨"KeyStore$Trees", "leastUnused", "()I"⟩
abbrev b_Trees_leastUnused : ByteArray := prog_9_method_5_code
def y_Trees_addTree : MethodName := ⟨"KeyStore$Trees", "addTree", "(I)V"⟩
abbrev b_Trees_addTree : ByteArray := prog_9_method_6_code
def y_Trees_dropTree : MethodName := ⟨"KeyStore$Trees", "dropTree", "(I)I"⟩
abbrev b_Trees_dropTree : ByteArray := prog_9_method_7_code
def y_Trees_descend : MethodName := ⟨"KeyStore$Trees", "descend", "(ILKeyStore$Row;)V"⟩
abbrev b_Trees_descend : ByteArray := prog_9_method_8_code
def y_Trees_lookUp : MethodName := ⟨"KeyStore$Trees", "lookUp", "(ILKeyStore$Row;)I"⟩
abbrev b_Trees_lookUp : ByteArray := prog_9_method_9_code
def y_Trees_leadsTo : MethodName := ⟨"KeyStore$Trees", "leadsTo", "(II)Z"⟩
abbrev b_Trees_leadsTo : ByteArray := prog_9_method_10_code
def y_Trees_firstFrom : MethodName := ⟨"KeyStore$Trees", "firstFrom", "(ILKeyStore$Row;Z)I"⟩
abbrev b_Trees_firstFrom : ByteArray := prog_9_method_11_code
def y_Trees_replaceHere : MethodName := ⟨"KeyStore$Trees", "replaceHere", "(LKeyStore$Row;LKeyStore$Row;)V"⟩
abbrev b_Trees_replaceHere : ByteArray := prog_9_method_12_code
def y_Trees_insertHere : MethodName := ⟨"KeyStore$Trees", "insertHere", "(ILKeyStore$Row;LKeyStore$Row;)V"⟩
abbrev b_Trees_insertHere : ByteArray := prog_9_method_13_code
def y_Trees_deleteHere : MethodName := ⟨"KeyStore$Trees", "deleteHere", "(I)V"⟩
abbrev b_Trees_deleteHere : ByteArray := prog_9_method_14_code
def y_Trees_setRoot : MethodName := ⟨"KeyStore$Trees", "setRoot", "(II)V"⟩
abbrev b_Trees_setRoot : ByteArray := prog_9_method_15_code
def y_Trees_rank : MethodName := ⟨"KeyStore$Trees", "rank", "(ILKeyStore$Row;Z)I"⟩
abbrev b_Trees_rank : ByteArray := prog_9_method_16_code
def y_Trees_insertSlot : MethodName := ⟨"KeyStore$Trees", "insertSlot", "(II)V"⟩
abbrev b_Trees_insertSlot : ByteArray := prog_9_method_17_code
def y_Trees_raiseRoot : MethodName := ⟨"KeyStore$Trees", "raiseRoot", "(II)V"⟩
abbrev b_Trees_raiseRoot : ByteArray := prog_9_method_18_code
def y_Trees_mendPath : MethodName := ⟨"KeyStore$Trees", "mendPath", "()V"⟩
abbrev b_Trees_mendPath : ByteArray := prog_9_method_19_code
def y_Trees_lowerRoot : MethodName := ⟨"KeyStore$Trees", "lowerRoot", "(I)V"⟩
abbrev b_Trees_lowerRoot : ByteArray := prog_9_method_20_code
def y_Trees_free : MethodName := ⟨"KeyStore$Trees", "free", "(II)V"⟩
abbrev b_Trees_free : ByteArray := prog_9_method_21_code
def y_Law_key : MethodName := ⟨"KeyStoreLaw", "key", "(LKeyStore;JI[J)I"⟩
abbrev b_Law_key : ByteArray := method_3_code
def y_Law_value : MethodName := ⟨"KeyStoreLaw", "value", "(LKeyStore;JI[J)I"⟩
abbrev b_Law_value : ByteArray := method_4_code
def y_Law_fill : MethodName := ⟨"KeyStoreLaw", "fill", "(LKeyStore;ZII[J)I"⟩
abbrev b_Law_fill : ByteArray := method_5_code
def y_Law_tree : MethodName := ⟨"KeyStoreLaw", "tree", "(LKeyStore;[J)I"⟩
abbrev b_Law_tree : ByteArray := method_6_code
def y_Law_drop : MethodName := ⟨"KeyStoreLaw", "drop", "(LKeyStore;I[J)I"⟩
abbrev b_Law_drop : ByteArray := method_7_code
def y_Law_put : MethodName := ⟨"KeyStoreLaw", "put", "(LKeyStore;I[J)I"⟩
abbrev b_Law_put : ByteArray := method_8_code
def y_Law_remove : MethodName := ⟨"KeyStoreLaw", "remove", "(LKeyStore;I[J)I"⟩
abbrev b_Law_remove : ByteArray := method_9_code
def y_Law_seek : MethodName := ⟨"KeyStoreLaw", "seek", "(LKeyStore;IZ[J)I"⟩
abbrev b_Law_seek : ByteArray := method_10_code
def y_Law_take : MethodName := ⟨"KeyStoreLaw", "take", "(LKeyStore;[J)I"⟩
abbrev b_Law_take : ByteArray := method_11_code
def y_Law_found : MethodName := ⟨"KeyStoreLaw", "found", "(LKeyStore;II[J)I"⟩
abbrev b_Law_found : ByteArray := method_12_code
def y_Law_begin : MethodName := ⟨"KeyStoreLaw", "begin", "(LKeyStore;)I"⟩
abbrev b_Law_begin : ByteArray := method_13_code
def y_Law_commit : MethodName := ⟨"KeyStoreLaw", "commit", "(LKeyStore;)I"⟩
abbrev b_Law_commit : ByteArray := method_14_code
def y_Law_rollback : MethodName := ⟨"KeyStoreLaw", "rollback", "(LKeyStore;)I"⟩
abbrev b_Law_rollback : ByteArray := method_15_code
def y_Law_mark : MethodName := ⟨"KeyStoreLaw", "mark", "(LKeyStore;[J)I"⟩
abbrev b_Law_mark : ByteArray := method_16_code
def y_Law_back : MethodName := ⟨"KeyStoreLaw", "back", "(LKeyStore;I)I"⟩
abbrev b_Law_back : ByteArray := method_17_code
def y_Law_keep : MethodName := ⟨"KeyStoreLaw", "keep", "(LKeyStore;I)I"⟩
abbrev b_Law_keep : ByteArray := method_18_code
def y_Law_power : MethodName := ⟨"KeyStoreLaw", "power", "(LKeyStore;III)I"⟩
abbrev b_Law_power : ByteArray := method_19_code
def y_Law_reopen : MethodName := ⟨"KeyStoreLaw", "reopen", "(LKeyStore;[J)I"⟩
abbrev b_Law_reopen : ByteArray := method_20_code
def y_Law_told : MethodName := ⟨"KeyStoreLaw", "told", "(LKeyStore;I[J)I"⟩
abbrev b_Law_told : ByteArray := method_21_code
def y_Law_check : MethodName := ⟨"KeyStoreLaw", "check", "(LKeyStore;[J)I"⟩
abbrev b_Law_check : ByteArray := method_22_code

section
-- ===== PART A: goes FIRST, ahead of the names: the tables' words, and 'selects' of the private methods out of them =====
/-- a private method of a class that the tables say can be made, by its rows of tables_1 -/
def lw_okq (q : MethodName × Nat) : Prop := (q.1.cls ≠ "java/lang/invoke/MethodHandle" ∧ q.1.cls ≠ "java/lang/invoke/VarHandle") ∧ Cond.instantiable q.1.cls q.2 ∈ tables_1 ∧ Cond.privateMethod q.1 ∈ tables_1 ∧ Cond.instanceMethod q.1 ∈ tables_1
theorem lw_p0 : lw_okq (⟨"KeyStore", "appendWord", "(LKeyStore$Row;JI)I"⟩, 13) := ⟨⟨by decide +kernel, by decide +kernel⟩, List.mem_of_getElem? (i := 22) (by decide +kernel), List.mem_of_getElem? (i := 246) (by decide +kernel), List.mem_of_getElem? (i := 247) (by decide +kernel)⟩
theorem lw_p1 : lw_okq (⟨"java/lang/Throwable", "fillInStackTrace", "(I)Ljava/lang/Throwable;"⟩, 6) := ⟨⟨by decide +kernel, by decide +kernel⟩, List.mem_of_getElem? (i := 290) (by decide +kernel), List.mem_of_getElem? (i := 288) (by decide +kernel), List.mem_of_getElem? (i := 289) (by decide +kernel)⟩
theorem lw_p2 : lw_okq (⟨"KeyStore", "demandRoom", "(LKeyStore$Row;I)V"⟩, 13) := ⟨⟨by decide +kernel, by decide +kernel⟩, List.mem_of_getElem? (i := 22) (by decide +kernel), List.mem_of_getElem? (i := 319) (by decide +kernel), List.mem_of_getElem? (i := 320) (by decide +kernel)⟩
theorem lw_p3 : lw_okq (⟨"KeyStore", "demandOpen", "()V"⟩, 13) := ⟨⟨by decide +kernel, by decide +kernel⟩, List.mem_of_getElem? (i := 22) (by decide +kernel), List.mem_of_getElem? (i := 382) (by decide +kernel), List.mem_of_getElem? (i := 383) (by decide +kernel)⟩
theorem lw_p4 : lw_okq (⟨"KeyStore$Trees", "setRoot", "(II)V"⟩, 6) := ⟨⟨by decide +kernel, by decide +kernel⟩, List.mem_of_getElem? (i := 136) (by decide +kernel), List.mem_of_getElem? (i := 434) (by decide +kernel), List.mem_of_getElem? (i := 435) (by decide +kernel)⟩
theorem lw_p5 : lw_okq (⟨"KeyStore", "demandTree", "(I)V"⟩, 13) := ⟨⟨by decide +kernel, by decide +kernel⟩, List.mem_of_getElem? (i := 22) (by decide +kernel), List.mem_of_getElem? (i := 448) (by decide +kernel), List.mem_of_getElem? (i := 449) (by decide +kernel)⟩
theorem lw_p6 : lw_okq (⟨"KeyStore$Trees", "free", "(II)V"⟩, 6) := ⟨⟨by decide +kernel, by decide +kernel⟩, List.mem_of_getElem? (i := 136) (by decide +kernel), List.mem_of_getElem? (i := 483) (by decide +kernel), List.mem_of_getElem? (i := 484) (by decide +kernel)⟩
theorem lw_p7 : lw_okq (⟨"KeyStore$Trees", "rank", "(ILKeyStore$Row;Z)I"⟩, 6) := ⟨⟨by decide +kernel, by decide +kernel⟩, List.mem_of_getElem? (i := 136) (by decide +kernel), List.mem_of_getElem? (i := 533) (by decide +kernel), List.mem_of_getElem? (i := 534) (by decide +kernel)⟩
theorem lw_p8 : lw_okq (⟨"KeyStore$Chains", "write", "(LKeyStore$Row;)V"⟩, 3) := ⟨⟨by decide +kernel, by decide +kernel⟩, List.mem_of_getElem? (i := 120) (by decide +kernel), List.mem_of_getElem? (i := 572) (by decide +kernel), List.mem_of_getElem? (i := 573) (by decide +kernel)⟩
theorem lw_p9 : lw_okq (⟨"KeyStore$Trees", "insertSlot", "(II)V"⟩, 6) := ⟨⟨by decide +kernel, by decide +kernel⟩, List.mem_of_getElem? (i := 136) (by decide +kernel), List.mem_of_getElem? (i := 592) (by decide +kernel), List.mem_of_getElem? (i := 593) (by decide +kernel)⟩
theorem lw_p10 : lw_okq (⟨"KeyStore$Nodes", "setCount", "(II)V"⟩, 2) := ⟨⟨by decide +kernel, by decide +kernel⟩, List.mem_of_getElem? (i := 106) (by decide +kernel), List.mem_of_getElem? (i := 607) (by decide +kernel), List.mem_of_getElem? (i := 608) (by decide +kernel)⟩
theorem lw_p11 : lw_okq (⟨"KeyStore$Nodes", "share", "(III)V"⟩, 2) := ⟨⟨by decide +kernel, by decide +kernel⟩, List.mem_of_getElem? (i := 106) (by decide +kernel), List.mem_of_getElem? (i := 617) (by decide +kernel), List.mem_of_getElem? (i := 618) (by decide +kernel)⟩
theorem lw_p12 : lw_okq (⟨"KeyStore$Trees", "raiseRoot", "(II)V"⟩, 6) := ⟨⟨by decide +kernel, by decide +kernel⟩, List.mem_of_getElem? (i := 136) (by decide +kernel), List.mem_of_getElem? (i := 621) (by decide +kernel), List.mem_of_getElem? (i := 622) (by decide +kernel)⟩
theorem lw_p13 : lw_okq (⟨"KeyStore$Trees", "mendPath", "()V"⟩, 6) := ⟨⟨by decide +kernel, by decide +kernel⟩, List.mem_of_getElem? (i := 136) (by decide +kernel), List.mem_of_getElem? (i := 640) (by decide +kernel), List.mem_of_getElem? (i := 641) (by decide +kernel)⟩
theorem lw_p14 : lw_okq (⟨"KeyStore$Trees", "lowerRoot", "(I)V"⟩, 6) := ⟨⟨by decide +kernel, by decide +kernel⟩, List.mem_of_getElem? (i := 136) (by decide +kernel), List.mem_of_getElem? (i := 653) (by decide +kernel), List.mem_of_getElem? (i := 654) (by decide +kernel)⟩
theorem lw_p15 : lw_okq (⟨"KeyStore", "demandOn", "()V"⟩, 13) := ⟨⟨by decide +kernel, by decide +kernel⟩, List.mem_of_getElem? (i := 22) (by decide +kernel), List.mem_of_getElem? (i := 664) (by decide +kernel), List.mem_of_getElem? (i := 665) (by decide +kernel)⟩
def lw_privs_1 : List (MethodName × Nat) := [(⟨"KeyStore", "appendWord", "(LKeyStore$Row;JI)I"⟩, 13), (⟨"java/lang/Throwable", "fillInStackTrace", "(I)Ljava/lang/Throwable;"⟩, 6), (⟨"KeyStore", "demandRoom", "(LKeyStore$Row;I)V"⟩, 13), (⟨"KeyStore", "demandOpen", "()V"⟩, 13), (⟨"KeyStore$Trees", "setRoot", "(II)V"⟩, 6), (⟨"KeyStore", "demandTree", "(I)V"⟩, 13), (⟨"KeyStore$Trees", "free", "(II)V"⟩, 6), (⟨"KeyStore$Trees", "rank", "(ILKeyStore$Row;Z)I"⟩, 6), (⟨"KeyStore$Chains", "write", "(LKeyStore$Row;)V"⟩, 3), (⟨"KeyStore$Trees", "insertSlot", "(II)V"⟩, 6), (⟨"KeyStore$Nodes", "setCount", "(II)V"⟩, 2), (⟨"KeyStore$Nodes", "share", "(III)V"⟩, 2), (⟨"KeyStore$Trees", "raiseRoot", "(II)V"⟩, 6), (⟨"KeyStore$Trees", "mendPath", "()V"⟩, 6), (⟨"KeyStore$Trees", "lowerRoot", "(I)V"⟩, 6), (⟨"KeyStore", "demandOn", "()V"⟩, 13)]
theorem lw_r1 : ∀ q ∈ lw_privs_1, lw_okq q := List.forall_mem_cons.mpr ⟨lw_p0, List.forall_mem_cons.mpr ⟨lw_p1, List.forall_mem_cons.mpr ⟨lw_p2, List.forall_mem_cons.mpr ⟨lw_p3, List.forall_mem_cons.mpr ⟨lw_p4, List.forall_mem_cons.mpr ⟨lw_p5, List.forall_mem_cons.mpr ⟨lw_p6, List.forall_mem_cons.mpr ⟨lw_p7, List.forall_mem_cons.mpr ⟨lw_p8, List.forall_mem_cons.mpr ⟨lw_p9, List.forall_mem_cons.mpr ⟨lw_p10, List.forall_mem_cons.mpr ⟨lw_p11, List.forall_mem_cons.mpr ⟨lw_p12, List.forall_mem_cons.mpr ⟨lw_p13, List.forall_mem_cons.mpr ⟨lw_p14, List.forall_mem_cons.mpr ⟨lw_p15, fun _ h => absurd h List.not_mem_nil⟩⟩⟩⟩⟩⟩⟩⟩⟩⟩⟩⟩⟩⟩⟩⟩
theorem lw_p16 : lw_okq (⟨"KeyStore$Chains", "read", "(LKeyStore$Row;I)V"⟩, 3) := ⟨⟨by decide +kernel, by decide +kernel⟩, List.mem_of_getElem? (i := 120) (by decide +kernel), List.mem_of_getElem? (i := 681) (by decide +kernel), List.mem_of_getElem? (i := 682) (by decide +kernel)⟩
theorem lw_p17 : lw_okq (⟨"KeyStore", "demandFound", "()V"⟩, 13) := ⟨⟨by decide +kernel, by decide +kernel⟩, List.mem_of_getElem? (i := 22) (by decide +kernel), List.mem_of_getElem? (i := 698) (by decide +kernel), List.mem_of_getElem? (i := 699) (by decide +kernel)⟩
theorem lw_p18 : lw_okq (⟨"KeyStore$Disk", "saveOld", "(LKeyStore$Pages;)Z"⟩, 7) := ⟨⟨by decide +kernel, by decide +kernel⟩, List.mem_of_getElem? (i := 45) (by decide +kernel), List.mem_of_getElem? (i := 742) (by decide +kernel), List.mem_of_getElem? (i := 743) (by decide +kernel)⟩
theorem lw_p19 : lw_okq (⟨"KeyStore$Disk", "writeJournal", "(II)Z"⟩, 7) := ⟨⟨by decide +kernel, by decide +kernel⟩, List.mem_of_getElem? (i := 45) (by decide +kernel), List.mem_of_getElem? (i := 750) (by decide +kernel), List.mem_of_getElem? (i := 751) (by decide +kernel)⟩
theorem lw_p20 : lw_okq (⟨"KeyStore$Disk", "bytesWritten", "(III)I"⟩, 7) := ⟨⟨by decide +kernel, by decide +kernel⟩, List.mem_of_getElem? (i := 45) (by decide +kernel), List.mem_of_getElem? (i := 755) (by decide +kernel), List.mem_of_getElem? (i := 756) (by decide +kernel)⟩
theorem lw_p21 : lw_okq (⟨"KeyStore$Disk", "fails", "(II)Z"⟩, 7) := ⟨⟨by decide +kernel, by decide +kernel⟩, List.mem_of_getElem? (i := 45) (by decide +kernel), List.mem_of_getElem? (i := 759) (by decide +kernel), List.mem_of_getElem? (i := 760) (by decide +kernel)⟩
theorem lw_p22 : lw_okq (⟨"KeyStore$Disk", "saveNew", "(LKeyStore$Pages;)Z"⟩, 7) := ⟨⟨by decide +kernel, by decide +kernel⟩, List.mem_of_getElem? (i := 45) (by decide +kernel), List.mem_of_getElem? (i := 764) (by decide +kernel), List.mem_of_getElem? (i := 765) (by decide +kernel)⟩
theorem lw_p23 : lw_okq (⟨"KeyStore$Disk", "writeFile", "(III[BI)Z"⟩, 7) := ⟨⟨by decide +kernel, by decide +kernel⟩, List.mem_of_getElem? (i := 45) (by decide +kernel), List.mem_of_getElem? (i := 769) (by decide +kernel), List.mem_of_getElem? (i := 770) (by decide +kernel)⟩
theorem lw_p24 : lw_okq (⟨"KeyStore$Disk", "endSave", "()Z"⟩, 7) := ⟨⟨by decide +kernel, by decide +kernel⟩, List.mem_of_getElem? (i := 45) (by decide +kernel), List.mem_of_getElem? (i := 773) (by decide +kernel), List.mem_of_getElem? (i := 774) (by decide +kernel)⟩
theorem lw_p25 : lw_okq (⟨"KeyStore", "endTransaction", "()V"⟩, 13) := ⟨⟨by decide +kernel, by decide +kernel⟩, List.mem_of_getElem? (i := 22) (by decide +kernel), List.mem_of_getElem? (i := 777) (by decide +kernel), List.mem_of_getElem? (i := 778) (by decide +kernel)⟩
theorem lw_p26 : lw_okq (⟨"KeyStore", "losePower", "()V"⟩, 13) := ⟨⟨by decide +kernel, by decide +kernel⟩, List.mem_of_getElem? (i := 22) (by decide +kernel), List.mem_of_getElem? (i := 785) (by decide +kernel), List.mem_of_getElem? (i := 786) (by decide +kernel)⟩
theorem lw_p27 : lw_okq (⟨"KeyStore", "demandMark", "(I)V"⟩, 13) := ⟨⟨by decide +kernel, by decide +kernel⟩, List.mem_of_getElem? (i := 22) (by decide +kernel), List.mem_of_getElem? (i := 852) (by decide +kernel), List.mem_of_getElem? (i := 853) (by decide +kernel)⟩
theorem lw_p28 : lw_okq (⟨"KeyStore$Checker", "forgetClaims", "()V"⟩, 9) := ⟨⟨by decide +kernel, by decide +kernel⟩, List.mem_of_getElem? (i := 161) (by decide +kernel), List.mem_of_getElem? (i := 936) (by decide +kernel), List.mem_of_getElem? (i := 937) (by decide +kernel)⟩
theorem lw_p29 : lw_okq (⟨"KeyStore$Checker", "expect", "(Z)V"⟩, 9) := ⟨⟨by decide +kernel, by decide +kernel⟩, List.mem_of_getElem? (i := 161) (by decide +kernel), List.mem_of_getElem? (i := 942) (by decide +kernel), List.mem_of_getElem? (i := 943) (by decide +kernel)⟩
theorem lw_p30 : lw_okq (⟨"KeyStore$Checker", "claimFree", "()V"⟩, 9) := ⟨⟨by decide +kernel, by decide +kernel⟩, List.mem_of_getElem? (i := 161) (by decide +kernel), List.mem_of_getElem? (i := 946) (by decide +kernel), List.mem_of_getElem? (i := 947) (by decide +kernel)⟩
theorem lw_p31 : lw_okq (⟨"KeyStore$Checker", "claimChain", "(I)I"⟩, 9) := ⟨⟨by decide +kernel, by decide +kernel⟩, List.mem_of_getElem? (i := 161) (by decide +kernel), List.mem_of_getElem? (i := 950) (by decide +kernel), List.mem_of_getElem? (i := 951) (by decide +kernel)⟩
def lw_privs_2 : List (MethodName × Nat) := [(⟨"KeyStore$Chains", "read", "(LKeyStore$Row;I)V"⟩, 3), (⟨"KeyStore", "demandFound", "()V"⟩, 13), (⟨"KeyStore$Disk", "saveOld", "(LKeyStore$Pages;)Z"⟩, 7), (⟨"KeyStore$Disk", "writeJournal", "(II)Z"⟩, 7), (⟨"KeyStore$Disk", "bytesWritten", "(III)I"⟩, 7), (⟨"KeyStore$Disk", "fails", "(II)Z"⟩, 7), (⟨"KeyStore$Disk", "saveNew", "(LKeyStore$Pages;)Z"⟩, 7), (⟨"KeyStore$Disk", "writeFile", "(III[BI)Z"⟩, 7), (⟨"KeyStore$Disk", "endSave", "()Z"⟩, 7), (⟨"KeyStore", "endTransaction", "()V"⟩, 13), (⟨"KeyStore", "losePower", "()V"⟩, 13), (⟨"KeyStore", "demandMark", "(I)V"⟩, 13), (⟨"KeyStore$Checker", "forgetClaims", "()V"⟩, 9), (⟨"KeyStore$Checker", "expect", "(Z)V"⟩, 9), (⟨"KeyStore$Checker", "claimFree", "()V"⟩, 9), (⟨"KeyStore$Checker", "claimChain", "(I)I"⟩, 9)]
theorem lw_r2 : ∀ q ∈ lw_privs_2, lw_okq q := List.forall_mem_cons.mpr ⟨lw_p16, List.forall_mem_cons.mpr ⟨lw_p17, List.forall_mem_cons.mpr ⟨lw_p18, List.forall_mem_cons.mpr ⟨lw_p19, List.forall_mem_cons.mpr ⟨lw_p20, List.forall_mem_cons.mpr ⟨lw_p21, List.forall_mem_cons.mpr ⟨lw_p22, List.forall_mem_cons.mpr ⟨lw_p23, List.forall_mem_cons.mpr ⟨lw_p24, List.forall_mem_cons.mpr ⟨lw_p25, List.forall_mem_cons.mpr ⟨lw_p26, List.forall_mem_cons.mpr ⟨lw_p27, List.forall_mem_cons.mpr ⟨lw_p28, List.forall_mem_cons.mpr ⟨lw_p29, List.forall_mem_cons.mpr ⟨lw_p30, List.forall_mem_cons.mpr ⟨lw_p31, fun _ h => absurd h List.not_mem_nil⟩⟩⟩⟩⟩⟩⟩⟩⟩⟩⟩⟩⟩⟩⟩⟩
theorem lw_p32 : lw_okq (⟨"KeyStore$Checker", "claim", "(I)Z"⟩, 9) := ⟨⟨by decide +kernel, by decide +kernel⟩, List.mem_of_getElem? (i := 161) (by decide +kernel), List.mem_of_getElem? (i := 954) (by decide +kernel), List.mem_of_getElem? (i := 955) (by decide +kernel)⟩
theorem lw_p33 : lw_okq (⟨"KeyStore$Checker", "walk", "(III)V"⟩, 9) := ⟨⟨by decide +kernel, by decide +kernel⟩, List.mem_of_getElem? (i := 161) (by decide +kernel), List.mem_of_getElem? (i := 962) (by decide +kernel), List.mem_of_getElem? (i := 963) (by decide +kernel)⟩
theorem lw_p34 : lw_okq (⟨"KeyStore$Checker", "examine", "(III)V"⟩, 9) := ⟨⟨by decide +kernel, by decide +kernel⟩, List.mem_of_getElem? (i := 161) (by decide +kernel), List.mem_of_getElem? (i := 969) (by decide +kernel), List.mem_of_getElem? (i := 970) (by decide +kernel)⟩
theorem lw_p35 : lw_okq (⟨"KeyStore$Checker", "expectAllClaimed", "()V"⟩, 9) := ⟨⟨by decide +kernel, by decide +kernel⟩, List.mem_of_getElem? (i := 161) (by decide +kernel), List.mem_of_getElem? (i := 989) (by decide +kernel), List.mem_of_getElem? (i := 990) (by decide +kernel)⟩
theorem lw_p36 : lw_okq (⟨"KeyStoreModel", "word", "(ZJI)I"⟩, 26) := ⟨⟨by decide +kernel, by decide +kernel⟩, List.mem_of_getElem? (i := 993) (by decide +kernel), List.mem_of_getElem? (i := 1088) (by decide +kernel), List.mem_of_getElem? (i := 1089) (by decide +kernel)⟩
theorem lw_p37 : lw_okq (⟨"KeyStoreModel", "room", "(ZIII)Z"⟩, 26) := ⟨⟨by decide +kernel, by decide +kernel⟩, List.mem_of_getElem? (i := 993) (by decide +kernel), List.mem_of_getElem? (i := 1092) (by decide +kernel), List.mem_of_getElem? (i := 1093) (by decide +kernel)⟩
theorem lw_p38 : lw_okq (⟨"KeyStoreModel", "come", "(ZI)I"⟩, 26) := ⟨⟨by decide +kernel, by decide +kernel⟩, List.mem_of_getElem? (i := 993) (by decide +kernel), List.mem_of_getElem? (i := 1096) (by decide +kernel), List.mem_of_getElem? (i := 1097) (by decide +kernel)⟩
theorem lw_p39 : lw_okq (⟨"KeyStoreModel", "isTree", "(I)Z"⟩, 26) := ⟨⟨by decide +kernel, by decide +kernel⟩, List.mem_of_getElem? (i := 993) (by decide +kernel), List.mem_of_getElem? (i := 1112) (by decide +kernel), List.mem_of_getElem? (i := 1113) (by decide +kernel)⟩
theorem lw_p40 : lw_okq (⟨"KeyStoreModel", "fails", "(ZI)Z"⟩, 26) := ⟨⟨by decide +kernel, by decide +kernel⟩, List.mem_of_getElem? (i := 993) (by decide +kernel), List.mem_of_getElem? (i := 1120) (by decide +kernel), List.mem_of_getElem? (i := 1121) (by decide +kernel)⟩
theorem lw_p41 : lw_okq (⟨"KeyStoreModel", "entries", "(I)I"⟩, 26) := ⟨⟨by decide +kernel, by decide +kernel⟩, List.mem_of_getElem? (i := 993) (by decide +kernel), List.mem_of_getElem? (i := 1124) (by decide +kernel), List.mem_of_getElem? (i := 1125) (by decide +kernel)⟩
theorem lw_p42 : lw_okq (⟨"KeyStoreModel", "find", "(I)I"⟩, 26) := ⟨⟨by decide +kernel, by decide +kernel⟩, List.mem_of_getElem? (i := 993) (by decide +kernel), List.mem_of_getElem? (i := 1133) (by decide +kernel), List.mem_of_getElem? (i := 1134) (by decide +kernel)⟩
theorem lw_p43 : lw_okq (⟨"KeyStoreModel", "compare", "(I)I"⟩, 26) := ⟨⟨by decide +kernel, by decide +kernel⟩, List.mem_of_getElem? (i := 993) (by decide +kernel), List.mem_of_getElem? (i := 1137) (by decide +kernel), List.mem_of_getElem? (i := 1138) (by decide +kernel)⟩
theorem lw_p44 : lw_okq (⟨"KeyStoreModel", "isThere", "(II)Z"⟩, 26) := ⟨⟨by decide +kernel, by decide +kernel⟩, List.mem_of_getElem? (i := 993) (by decide +kernel), List.mem_of_getElem? (i := 1141) (by decide +kernel), List.mem_of_getElem? (i := 1142) (by decide +kernel)⟩
theorem lw_p45 : lw_okq (⟨"KeyStoreModel", "size", "()I"⟩, 26) := ⟨⟨by decide +kernel, by decide +kernel⟩, List.mem_of_getElem? (i := 993) (by decide +kernel), List.mem_of_getElem? (i := 1145) (by decide +kernel), List.mem_of_getElem? (i := 1146) (by decide +kernel)⟩
theorem lw_p46 : lw_okq (⟨"KeyStoreModel", "out", "(I)V"⟩, 26) := ⟨⟨by decide +kernel, by decide +kernel⟩, List.mem_of_getElem? (i := 993) (by decide +kernel), List.mem_of_getElem? (i := 1150) (by decide +kernel), List.mem_of_getElem? (i := 1151) (by decide +kernel)⟩
theorem lw_p47 : lw_okq (⟨"KeyStoreModel", "entry", "(I)I"⟩, 26) := ⟨⟨by decide +kernel, by decide +kernel⟩, List.mem_of_getElem? (i := 993) (by decide +kernel), List.mem_of_getElem? (i := 1154) (by decide +kernel), List.mem_of_getElem? (i := 1155) (by decide +kernel)⟩
def lw_privs_3 : List (MethodName × Nat) := [(⟨"KeyStore$Checker", "claim", "(I)Z"⟩, 9), (⟨"KeyStore$Checker", "walk", "(III)V"⟩, 9), (⟨"KeyStore$Checker", "examine", "(III)V"⟩, 9), (⟨"KeyStore$Checker", "expectAllClaimed", "()V"⟩, 9), (⟨"KeyStoreModel", "word", "(ZJI)I"⟩, 26), (⟨"KeyStoreModel", "room", "(ZIII)Z"⟩, 26), (⟨"KeyStoreModel", "come", "(ZI)I"⟩, 26), (⟨"KeyStoreModel", "isTree", "(I)Z"⟩, 26), (⟨"KeyStoreModel", "fails", "(ZI)Z"⟩, 26), (⟨"KeyStoreModel", "entries", "(I)I"⟩, 26), (⟨"KeyStoreModel", "find", "(I)I"⟩, 26), (⟨"KeyStoreModel", "compare", "(I)I"⟩, 26), (⟨"KeyStoreModel", "isThere", "(II)Z"⟩, 26), (⟨"KeyStoreModel", "size", "()I"⟩, 26), (⟨"KeyStoreModel", "out", "(I)V"⟩, 26), (⟨"KeyStoreModel", "entry", "(I)I"⟩, 26)]
theorem lw_r3 : ∀ q ∈ lw_privs_3, lw_okq q := List.forall_mem_cons.mpr ⟨lw_p32, List.forall_mem_cons.mpr ⟨lw_p33, List.forall_mem_cons.mpr ⟨lw_p34, List.forall_mem_cons.mpr ⟨lw_p35, List.forall_mem_cons.mpr ⟨lw_p36, List.forall_mem_cons.mpr ⟨lw_p37, List.forall_mem_cons.mpr ⟨lw_p38, List.forall_mem_cons.mpr ⟨lw_p39, List.forall_mem_cons.mpr ⟨lw_p40, List.forall_mem_cons.mpr ⟨lw_p41, List.forall_mem_cons.mpr ⟨lw_p42, List.forall_mem_cons.mpr ⟨lw_p43, List.forall_mem_cons.mpr ⟨lw_p44, List.forall_mem_cons.mpr ⟨lw_p45, List.forall_mem_cons.mpr ⟨lw_p46, List.forall_mem_cons.mpr ⟨lw_p47, fun _ h => absurd h List.not_mem_nil⟩⟩⟩⟩⟩⟩⟩⟩⟩⟩⟩⟩⟩⟩⟩⟩
theorem lw_p48 : lw_okq (⟨"KeyStoreModel", "pack", "()V"⟩, 26) := ⟨⟨by decide +kernel, by decide +kernel⟩, List.mem_of_getElem? (i := 993) (by decide +kernel), List.mem_of_getElem? (i := 1158) (by decide +kernel), List.mem_of_getElem? (i := 1159) (by decide +kernel)⟩
theorem lw_p49 : lw_okq (⟨"KeyStoreModel", "isShut", "(Z)Z"⟩, 26) := ⟨⟨by decide +kernel, by decide +kernel⟩, List.mem_of_getElem? (i := 993) (by decide +kernel), List.mem_of_getElem? (i := 1182) (by decide +kernel), List.mem_of_getElem? (i := 1183) (by decide +kernel)⟩
theorem lw_p50 : lw_okq (⟨"KeyStoreModel", "copy", "(II)V"⟩, 26) := ⟨⟨by decide +kernel, by decide +kernel⟩, List.mem_of_getElem? (i := 993) (by decide +kernel), List.mem_of_getElem? (i := 1190) (by decide +kernel), List.mem_of_getElem? (i := 1191) (by decide +kernel)⟩
theorem lw_p51 : lw_okq (⟨"KeyStoreModel", "end", "()V"⟩, 26) := ⟨⟨by decide +kernel, by decide +kernel⟩, List.mem_of_getElem? (i := 993) (by decide +kernel), List.mem_of_getElem? (i := 1194) (by decide +kernel), List.mem_of_getElem? (i := 1195) (by decide +kernel)⟩
theorem lw_p52 : lw_okq (⟨"KeyStoreModel", "fall", "()V"⟩, 26) := ⟨⟨by decide +kernel, by decide +kernel⟩, List.mem_of_getElem? (i := 993) (by decide +kernel), List.mem_of_getElem? (i := 1198) (by decide +kernel), List.mem_of_getElem? (i := 1199) (by decide +kernel)⟩
theorem lw_p53 : lw_okq (⟨"KeyStoreModel", "isMark", "(I)Z"⟩, 26) := ⟨⟨by decide +kernel, by decide +kernel⟩, List.mem_of_getElem? (i := 993) (by decide +kernel), List.mem_of_getElem? (i := 1214) (by decide +kernel), List.mem_of_getElem? (i := 1215) (by decide +kernel)⟩
theorem lw_p54 : lw_okq (⟨"KeyStoreModel", "count", "()I"⟩, 26) := ⟨⟨by decide +kernel, by decide +kernel⟩, List.mem_of_getElem? (i := 993) (by decide +kernel), List.mem_of_getElem? (i := 1230) (by decide +kernel), List.mem_of_getElem? (i := 1231) (by decide +kernel)⟩
def lw_privs_4 : List (MethodName × Nat) := [(⟨"KeyStoreModel", "pack", "()V"⟩, 26), (⟨"KeyStoreModel", "isShut", "(Z)Z"⟩, 26), (⟨"KeyStoreModel", "copy", "(II)V"⟩, 26), (⟨"KeyStoreModel", "end", "()V"⟩, 26), (⟨"KeyStoreModel", "fall", "()V"⟩, 26), (⟨"KeyStoreModel", "isMark", "(I)Z"⟩, 26), (⟨"KeyStoreModel", "count", "()I"⟩, 26)]
theorem lw_r4 : ∀ q ∈ lw_privs_4, lw_okq q := List.forall_mem_cons.mpr ⟨lw_p48, List.forall_mem_cons.mpr ⟨lw_p49, List.forall_mem_cons.mpr ⟨lw_p50, List.forall_mem_cons.mpr ⟨lw_p51, List.forall_mem_cons.mpr ⟨lw_p52, List.forall_mem_cons.mpr ⟨lw_p53, List.forall_mem_cons.mpr ⟨lw_p54, fun _ h => absurd h List.not_mem_nil⟩⟩⟩⟩⟩⟩⟩
def lw_privs : List (MethodName × Nat) := lw_privs_1 ++ (lw_privs_2 ++ (lw_privs_3 ++ (lw_privs_4)))
def lw_tbl : List Cond := k2_sels lw_privs ++ tables_1
theorem lw_privs_ok : ∀ q ∈ lw_privs, lw_okq q := by
  show ∀ q ∈ lw_privs_1 ++ (lw_privs_2 ++ (lw_privs_3 ++ (lw_privs_4))), lw_okq q
  exact List.forall_mem_append.mpr ⟨lw_r1, List.forall_mem_append.mpr ⟨lw_r2, List.forall_mem_append.mpr ⟨lw_r3, lw_r4⟩⟩⟩
/-! the words that a callee may take over; names of the classes, their fields, the methods -/
def ks_tbl : List Cond := lw_tbl.filter goodWord
theorem ks_mem {w : Cond} (h : w ∈ lw_tbl) (g : goodWord w = true) : w ∈ ks_tbl := List.mem_filter.mpr ⟨h, g⟩
theorem ks_tblGood : ∀ w ∈ ks_tbl, (w.onTables && w.keeps) = true ∨ ∃ ty, w = .arrayClass ty := fun w h => good_of_word (List.mem_filter.mp h).2
theorem ks_tbl_lw : ∀ w ∈ ks_tbl, w ∈ lw_tbl := fun w h => (List.mem_filter.mp h).1
def R_Row : String := "KeyStore$Row"
def F_Row : u_T := fun k => match k with
  | 0 => ("KeyStore$Row", "bytes", "[B", true)
  | _ => ("KeyStore$Row", "length", "I", false)
def t_Row : Nat → FieldType := fun k => match k with
  | 0 => .array .byte
  | _ => .int
theorem nm_Row : ∀ a, a < 2 → ∀ b, b < 2 → a ≠ b → (F_Row a).2.1 ≠ (F_Row b).2.1 := by decide +kernel
theorem ty_Row : ∀ k, k < 2 → parseFieldDescriptor (F_Row k).2.2.1 = some (t_Row k) := by decide +kernel
theorem in0_Row : ∀ w ∈ u_ws R_Row F_Row 2, w ∈ lw_tbl := by decide +kernel
theorem in_Row : ∀ w ∈ u_ws R_Row F_Row 2, w ∈ ks_tbl := fun w h => ks_mem (in0_Row w h) (List.all_eq_true.mp (by decide +kernel : (u_ws R_Row F_Row 2).all goodWord = true) w h)
def R_Pages : String := "KeyStore$Pages"
def F_Pages : u_T := fun k => match k with
  | 0 => ("KeyStore$Pages", "bytes", "[B", true)
  | _ => ("KeyStore$Pages", "changed", "[Z", true)
def t_Pages : Nat → FieldType := fun k => match k with
  | 0 => .array .byte
  | _ => .array .boolean
theorem nm_Pages : ∀ a, a < 2 → ∀ b, b < 2 → a ≠ b → (F_Pages a).2.1 ≠ (F_Pages b).2.1 := by decide +kernel
theorem ty_Pages : ∀ k, k < 2 → parseFieldDescriptor (F_Pages k).2.2.1 = some (t_Pages k) := by decide +kernel
theorem in0_Pages : ∀ w ∈ u_ws R_Pages F_Pages 2, w ∈ lw_tbl := by decide +kernel
theorem in_Pages : ∀ w ∈ u_ws R_Pages F_Pages 2, w ∈ ks_tbl := fun w h => ks_mem (in0_Pages w h) (List.all_eq_true.mp (by decide +kernel : (u_ws R_Pages F_Pages 2).all goodWord = true) w h)
def R_Disk : String := "KeyStore$Disk"
def F_Disk : u_T := fun k => match k with
  | 0 => ("KeyStore$Disk", "file", "[B", true)
  | 1 => ("KeyStore$Disk", "journal", "[B", true)
  | 2 => ("KeyStore$Disk", "record", "[B", true)
  | 3 => ("KeyStore$Disk", "journalLength", "I", false)
  | 4 => ("KeyStore$Disk", "failWhen", "I", false)
  | 5 => ("KeyStore$Disk", "failWrite", "I", false)
  | _ => ("KeyStore$Disk", "failBytes", "I", false)
def t_Disk : Nat → FieldType := fun k => match k with
  | 0 => .array .byte
  | 1 => .array .byte
  | 2 => .array .byte
  | 3 => .int
  | 4 => .int
  | 5 => .int
  | _ => .int
theorem nm_Disk : ∀ a, a < 7 → ∀ b, b < 7 → a ≠ b → (F_Disk a).2.1 ≠ (F_Disk b).2.1 := by decide +kernel
theorem ty_Disk : ∀ k, k < 7 → parseFieldDescriptor (F_Disk k).2.2.1 = some (t_Disk k) := by decide +kernel
theorem in0_Disk : ∀ w ∈ u_ws R_Disk F_Disk 7, w ∈ lw_tbl := by decide +kernel
theorem in_Disk : ∀ w ∈ u_ws R_Disk F_Disk 7, w ∈ ks_tbl := fun w h => ks_mem (in0_Disk w h) (List.all_eq_true.mp (by decide +kernel : (u_ws R_Disk F_Disk 7).all goodWord = true) w h)
def R_Marks : String := "KeyStore$Marks"
def F_Marks : u_T := fun k => match k with
  | 0 => ("KeyStore$Marks", "saved", "[[B", true)
  | _ => ("KeyStore$Marks", "count", "I", false)
def t_Marks : Nat → FieldType := fun k => match k with
  | 0 => .array (.array .byte)
  | _ => .int
theorem nm_Marks : ∀ a, a < 2 → ∀ b, b < 2 → a ≠ b → (F_Marks a).2.1 ≠ (F_Marks b).2.1 := by decide +kernel
theorem ty_Marks : ∀ k, k < 2 → parseFieldDescriptor (F_Marks k).2.2.1 = some (t_Marks k) := by decide +kernel
theorem in0_Marks : ∀ w ∈ u_ws R_Marks F_Marks 2, w ∈ lw_tbl := by decide +kernel
theorem in_Marks : ∀ w ∈ u_ws R_Marks F_Marks 2, w ∈ ks_tbl := fun w h => ks_mem (in0_Marks w h) (List.all_eq_true.mp (by decide +kernel : (u_ws R_Marks F_Marks 2).all goodWord = true) w h)
def R_Chains : String := "KeyStore$Chains"
def F_Chains : u_T := fun k => match k with
  | 0 => ("KeyStore$Chains", "pages", "LKeyStore$Pages;", true)
  | 1 => ("KeyStore$Chains", "page", "I", false)
  | _ => ("KeyStore$Chains", "at", "I", false)
def t_Chains : Nat → FieldType := fun k => match k with
  | 0 => .object "KeyStore$Pages"
  | 1 => .int
  | _ => .int
theorem nm_Chains : ∀ a, a < 3 → ∀ b, b < 3 → a ≠ b → (F_Chains a).2.1 ≠ (F_Chains b).2.1 := by decide +kernel
theorem ty_Chains : ∀ k, k < 3 → parseFieldDescriptor (F_Chains k).2.2.1 = some (t_Chains k) := by decide +kernel
theorem in0_Chains : ∀ w ∈ u_ws R_Chains F_Chains 3, w ∈ lw_tbl := by decide +kernel
theorem in_Chains : ∀ w ∈ u_ws R_Chains F_Chains 3, w ∈ ks_tbl := fun w h => ks_mem (in0_Chains w h) (List.all_eq_true.mp (by decide +kernel : (u_ws R_Chains F_Chains 3).all goodWord = true) w h)
def R_Nodes : String := "KeyStore$Nodes"
def F_Nodes : u_T := fun k => match k with
  | 0 => ("KeyStore$Nodes", "pages", "LKeyStore$Pages;", true)
  | _ => ("KeyStore$Nodes", "gathered", "[I", true)
def t_Nodes : Nat → FieldType := fun k => match k with
  | 0 => .object "KeyStore$Pages"
  | _ => .array .int
theorem nm_Nodes : ∀ a, a < 2 → ∀ b, b < 2 → a ≠ b → (F_Nodes a).2.1 ≠ (F_Nodes b).2.1 := by decide +kernel
theorem ty_Nodes : ∀ k, k < 2 → parseFieldDescriptor (F_Nodes k).2.2.1 = some (t_Nodes k) := by decide +kernel
theorem in0_Nodes : ∀ w ∈ u_ws R_Nodes F_Nodes 2, w ∈ lw_tbl := by decide +kernel
theorem in_Nodes : ∀ w ∈ u_ws R_Nodes F_Nodes 2, w ∈ ks_tbl := fun w h => ks_mem (in0_Nodes w h) (List.all_eq_true.mp (by decide +kernel : (u_ws R_Nodes F_Nodes 2).all goodWord = true) w h)
def R_Trees : String := "KeyStore$Trees"
def F_Trees : u_T := fun k => match k with
  | 0 => ("KeyStore$Trees", "pages", "LKeyStore$Pages;", true)
  | 1 => ("KeyStore$Trees", "nodes", "LKeyStore$Nodes;", true)
  | 2 => ("KeyStore$Trees", "chains", "LKeyStore$Chains;", true)
  | 3 => ("KeyStore$Trees", "pathNode", "[I", true)
  | 4 => ("KeyStore$Trees", "pathSlot", "[I", true)
  | _ => ("KeyStore$Trees", "top", "I", false)
def t_Trees : Nat → FieldType := fun k => match k with
  | 0 => .object "KeyStore$Pages"
  | 1 => .object "KeyStore$Nodes"
  | 2 => .object "KeyStore$Chains"
  | 3 => .array .int
  | 4 => .array .int
  | _ => .int
theorem nm_Trees : ∀ a, a < 6 → ∀ b, b < 6 → a ≠ b → (F_Trees a).2.1 ≠ (F_Trees b).2.1 := by decide +kernel
theorem ty_Trees : ∀ k, k < 6 → parseFieldDescriptor (F_Trees k).2.2.1 = some (t_Trees k) := by decide +kernel
theorem in0_Trees : ∀ w ∈ u_ws R_Trees F_Trees 6, w ∈ lw_tbl := by decide +kernel
theorem in_Trees : ∀ w ∈ u_ws R_Trees F_Trees 6, w ∈ ks_tbl := fun w h => ks_mem (in0_Trees w h) (List.all_eq_true.mp (by decide +kernel : (u_ws R_Trees F_Trees 6).all goodWord = true) w h)
def R_Checker : String := "KeyStore$Checker"
def F_Checker : u_T := fun k => match k with
  | 0 => ("KeyStore$Checker", "pages", "LKeyStore$Pages;", true)
  | 1 => ("KeyStore$Checker", "nodes", "LKeyStore$Nodes;", true)
  | 2 => ("KeyStore$Checker", "chains", "LKeyStore$Chains;", true)
  | 3 => ("KeyStore$Checker", "trees", "LKeyStore$Trees;", true)
  | 4 => ("KeyStore$Checker", "claimed", "[Z", true)
  | 5 => ("KeyStore$Checker", "last", "LKeyStore$Row;", true)
  | 6 => ("KeyStore$Checker", "wrong", "I", false)
  | 7 => ("KeyStore$Checker", "entries", "I", false)
  | _ => ("KeyStore$Checker", "size", "I", false)
def t_Checker : Nat → FieldType := fun k => match k with
  | 0 => .object "KeyStore$Pages"
  | 1 => .object "KeyStore$Nodes"
  | 2 => .object "KeyStore$Chains"
  | 3 => .object "KeyStore$Trees"
  | 4 => .array .boolean
  | 5 => .object "KeyStore$Row"
  | 6 => .int
  | 7 => .int
  | _ => .int
theorem nm_Checker : ∀ a, a < 9 → ∀ b, b < 9 → a ≠ b → (F_Checker a).2.1 ≠ (F_Checker b).2.1 := by decide +kernel
theorem ty_Checker : ∀ k, k < 9 → parseFieldDescriptor (F_Checker k).2.2.1 = some (t_Checker k) := by decide +kernel
theorem in0_Checker : ∀ w ∈ u_ws R_Checker F_Checker 9, w ∈ lw_tbl := by decide +kernel
theorem in_Checker : ∀ w ∈ u_ws R_Checker F_Checker 9, w ∈ ks_tbl := fun w h => ks_mem (in0_Checker w h) (List.all_eq_true.mp (by decide +kernel : (u_ws R_Checker F_Checker 9).all goodWord = true) w h)
def R_Store : String := "KeyStore"
def F_Store : u_T := fun k => match k with
  | 0 => ("KeyStore", "theKey", "LKeyStore$Row;", true)
  | 1 => ("KeyStore", "theValue", "LKeyStore$Row;", true)
  | 2 => ("KeyStore", "foundKey", "LKeyStore$Row;", true)
  | 3 => ("KeyStore", "foundValue", "LKeyStore$Row;", true)
  | 4 => ("KeyStore", "disk", "LKeyStore$Disk;", true)
  | 5 => ("KeyStore", "pages", "LKeyStore$Pages;", true)
  | 6 => ("KeyStore", "marks", "LKeyStore$Marks;", true)
  | 7 => ("KeyStore", "chains", "LKeyStore$Chains;", true)
  | 8 => ("KeyStore", "trees", "LKeyStore$Trees;", true)
  | 9 => ("KeyStore", "checker", "LKeyStore$Checker;", true)
  | 10 => ("KeyStore", "isFound", "Z", false)
  | 11 => ("KeyStore", "isOn", "Z", false)
  | _ => ("KeyStore", "isOpen", "Z", false)
def t_Store : Nat → FieldType := fun k => match k with
  | 0 => .object "KeyStore$Row"
  | 1 => .object "KeyStore$Row"
  | 2 => .object "KeyStore$Row"
  | 3 => .object "KeyStore$Row"
  | 4 => .object "KeyStore$Disk"
  | 5 => .object "KeyStore$Pages"
  | 6 => .object "KeyStore$Marks"
  | 7 => .object "KeyStore$Chains"
  | 8 => .object "KeyStore$Trees"
  | 9 => .object "KeyStore$Checker"
  | 10 => .boolean
  | 11 => .boolean
  | _ => .boolean
theorem nm_Store : ∀ a, a < 13 → ∀ b, b < 13 → a ≠ b → (F_Store a).2.1 ≠ (F_Store b).2.1 := by decide +kernel
theorem ty_Store : ∀ k, k < 13 → parseFieldDescriptor (F_Store k).2.2.1 = some (t_Store k) := by decide +kernel
theorem in0_Store : ∀ w ∈ u_ws R_Store F_Store 13, w ∈ lw_tbl := by decide +kernel
theorem in_Store : ∀ w ∈ u_ws R_Store F_Store 13, w ∈ ks_tbl := fun w h => ks_mem (in0_Store w h) (List.all_eq_true.mp (by decide +kernel : (u_ws R_Store F_Store 13).all goodWord = true) w h)
def R_Model : String := "KeyStoreModel"
def F_Model : u_T := fun k => match k with
  | 0 => ("KeyStoreModel", "treeOf", "[I", true)
  | 1 => ("KeyStoreModel", "place", "[I", true)
  | 2 => ("KeyStoreModel", "keySize", "[I", true)
  | 3 => ("KeyStoreModel", "valueSize", "[I", true)
  | 4 => ("KeyStoreModel", "moved", "[I", true)
  | 5 => ("KeyStoreModel", "bytes", "[B", true)
  | 6 => ("KeyStoreModel", "records", "I", false)
  | 7 => ("KeyStoreModel", "used", "I", false)
  | 8 => ("KeyStoreModel", "list", "[I", true)
  | 9 => ("KeyStoreModel", "many", "[I", true)
  | 10 => ("KeyStoreModel", "trees", "[J", true)
  | 11 => ("KeyStoreModel", "key", "[B", true)
  | 12 => ("KeyStoreModel", "value", "[B", true)
  | 13 => ("KeyStoreModel", "foundKey", "[B", true)
  | 14 => ("KeyStoreModel", "foundValue", "[B", true)
  | 15 => ("KeyStoreModel", "keys", "I", false)
  | 16 => ("KeyStoreModel", "values", "I", false)
  | 17 => ("KeyStoreModel", "foundKeys", "I", false)
  | 18 => ("KeyStoreModel", "foundValues", "I", false)
  | 19 => ("KeyStoreModel", "marks", "I", false)
  | 20 => ("KeyStoreModel", "isOff", "Z", false)
  | 21 => ("KeyStoreModel", "isOpen", "Z", false)
  | 22 => ("KeyStoreModel", "isFound", "Z", false)
  | 23 => ("KeyStoreModel", "when", "I", false)
  | 24 => ("KeyStoreModel", "after", "I", false)
  | _ => ("KeyStoreModel", "thrown", "I", false)
def t_Model : Nat → FieldType := fun k => match k with
  | 0 => .array .int
  | 1 => .array .int
  | 2 => .array .int
  | 3 => .array .int
  | 4 => .array .int
  | 5 => .array .byte
  | 6 => .int
  | 7 => .int
  | 8 => .array .int
  | 9 => .array .int
  | 10 => .array .long
  | 11 => .array .byte
  | 12 => .array .byte
  | 13 => .array .byte
  | 14 => .array .byte
  | 15 => .int
  | 16 => .int
  | 17 => .int
  | 18 => .int
  | 19 => .int
  | 20 => .boolean
  | 21 => .boolean
  | 22 => .boolean
  | 23 => .int
  | 24 => .int
  | _ => .int
theorem nm_Model : ∀ a, a < 26 → ∀ b, b < 26 → a ≠ b → (F_Model a).2.1 ≠ (F_Model b).2.1 := by decide +kernel
theorem ty_Model : ∀ k, k < 26 → parseFieldDescriptor (F_Model k).2.2.1 = some (t_Model k) := by decide +kernel
theorem in0_Model : ∀ w ∈ u_ws R_Model F_Model 26, w ∈ lw_tbl := by decide +kernel
theorem in_Model : ∀ w ∈ u_ws R_Model F_Model 26, w ∈ ks_tbl := fun w h => ks_mem (in0_Model w h) (List.all_eq_true.mp (by decide +kernel : (u_ws R_Model F_Model 26).all goodWord = true) w h)
abbrev vwCl : List vw_C := [(R_Row, F_Row, 2), (R_Pages, F_Pages, 2), (R_Disk, F_Disk, 7), (R_Marks, F_Marks, 2), (R_Chains, F_Chains, 3), (R_Nodes, F_Nodes, 2), (R_Trees, F_Trees, 6), (R_Checker, F_Checker, 9), (R_Store, F_Store, 13), (R_Model, F_Model, 26)]
def y_Store_init : MethodName := ⟨"KeyStore", "<init>", "()V"⟩
abbrev b_Store_init : ByteArray := prog_1_method_1_code
def y_Store_key : MethodName := ⟨"KeyStore", "key", "(JI)I"⟩
abbrev b_Store_key : ByteArray := prog_1_method_2_code
def y_Store_value : MethodName := ⟨"KeyStore", "value", "(JI)I"⟩
abbrev b_Store_value : ByteArray := prog_1_method_3_code
def y_Store_fill : MethodName := ⟨"KeyStore", "fill", "(ZII)I"⟩
abbrev b_Store_fill : ByteArray := prog_1_method_4_code
def y_Store_tree : MethodName := ⟨"KeyStore", "tree", "()I"⟩
abbrev b_Store_tree : ByteArray := prog_1_method_5_code
def y_Store_drop : MethodName := ⟨"KeyStore", "drop", "(I)I"⟩
abbrev b_Store_drop : ByteArray := prog_1_method_6_code
def y_Store_put : MethodName := ⟨"KeyStore", "put", "(I)Z"⟩
abbrev b_Store_put : ByteArray := prog_1_method_7_code
def y_Store_remove : MethodName := ⟨"KeyStore", "remove", "(I)Z"⟩
abbrev b_Store_remove : ByteArray := prog_1_method_8_code
def y_Store_seek : MethodName := ⟨"KeyStore", "seek", "(IZ)Z"⟩
abbrev b_Store_seek : ByteArray := prog_1_method_9_code
def y_Store_take : MethodName := ⟨"KeyStore", "take", "()I"⟩
abbrev b_Store_take : ByteArray := prog_1_method_10_code
def y_Store_found : MethodName := ⟨"KeyStore", "found", "(II)J"⟩
abbrev b_Store_found : ByteArray := prog_1_method_11_code
def y_Store_begin : MethodName := ⟨"KeyStore", "begin", "()V"⟩
abbrev b_Store_begin : ByteArray := prog_1_method_12_code
def y_Store_commit : MethodName := ⟨"KeyStore", "commit", "()V"⟩
abbrev b_Store_commit : ByteArray := prog_1_method_13_code
def y_Store_rollback : MethodName := ⟨"KeyStore", "rollback", "()V"⟩
abbrev b_Store_rollback : ByteArray := prog_1_method_14_code
def y_Store_mark : MethodName := ⟨"KeyStore", "mark", "()I"⟩
abbrev b_Store_mark : ByteArray := prog_1_method_15_code
def y_Store_back : MethodName := ⟨"KeyStore", "back", "(I)V"⟩
abbrev b_Store_back : ByteArray := prog_1_method_16_code
def y_Store_keep : MethodName := ⟨"KeyStore", "keep", "(I)V"⟩
abbrev b_Store_keep : ByteArray := prog_1_method_17_code
def y_Store_power : MethodName := ⟨"KeyStore", "power", "(III)V"⟩
abbrev b_Store_power : ByteArray := prog_1_method_18_code
def y_Store_reopen : MethodName := ⟨"KeyStore", "reopen", "()I"⟩
abbrev b_Store_reopen : ByteArray := prog_1_method_19_code
def y_Store_told : MethodName := ⟨"KeyStore", "told", "(I)I"⟩
abbrev b_Store_told : ByteArray := prog_1_method_20_code
def y_Store_check : MethodName := ⟨"KeyStore", "check", "()I"⟩
abbrev b_Store_check : ByteArray := prog_1_method_21_code
def y_Store_appendWord : MethodName := ⟨"KeyStore", "appendWord", "(LKeyStore$Row;JI)I"⟩
abbrev b_Store_appendWord : ByteArray := prog_1_method_22_code
def y_Store_demandOn : MethodName := ⟨"KeyStore", "demandOn", "()V"⟩
abbrev b_Store_demandOn : ByteArray := prog_1_method_23_code
def y_Store_demandOpen : MethodName := ⟨"KeyStore", "demandOpen", "()V"⟩
abbrev b_Store_demandOpen : ByteArray := prog_1_method_24_code
def y_Store_demandRoom : MethodName := ⟨"KeyStore", "demandRoom", "(LKeyStore$Row;I)V"⟩
abbrev b_Store_demandRoom : ByteArray := prog_1_method_25_code
def y_Store_demandTree : MethodName := ⟨"KeyStore", "demandTree", "(I)V"⟩
abbrev b_Store_demandTree : ByteArray := prog_1_method_26_code
def y_Store_demandFound : MethodName := ⟨"KeyStore", "demandFound", "()V"⟩
abbrev b_Store_demandFound : ByteArray := prog_1_method_27_code
def y_Store_demandMark : MethodName := ⟨"KeyStore", "demandMark", "(I)V"⟩
abbrev b_Store_demandMark : ByteArray := prog_1_method_28_code
def y_Store_endTransaction : MethodName := ⟨"KeyStore", "endTransaction", "()V"⟩
abbrev b_Store_endTransaction : ByteArray := prog_1_method_29_code
def y_Store_losePower : MethodName := ⟨"KeyStore", "losePower", "()V"⟩
abbrev b_Store_losePower : ByteArray := prog_1_method_30_code
def y_Model_init : MethodName := ⟨"KeyStoreModel", "<init>", "()V"⟩
abbrev b_Model_init : ByteArray := prog_11_method_1_code
def y_Model_thrown : MethodName := ⟨"KeyStoreModel", "thrown", "()I"⟩
abbrev b_Model_thrown : ByteArray := prog_11_method_2_code
def y_Model_room : MethodName := ⟨"KeyStoreModel", "room", "(ZIII)Z"⟩
abbrev b_Model_room : ByteArray := prog_11_method_3_code
def y_Model_come : MethodName := ⟨"KeyStoreModel", "come", "(ZI)I"⟩
abbrev b_Model_come : ByteArray := prog_11_method_4_code
def y_Model_word : MethodName := ⟨"KeyStoreModel", "word", "(ZJI)I"⟩
abbrev b_Model_word : ByteArray := prog_11_method_5_code
def y_Model_key : MethodName := ⟨"KeyStoreModel", "key", "(JI)I"⟩
abbrev b_Model_key : ByteArray := prog_11_method_6_code
def y_Model_value : MethodName := ⟨"KeyStoreModel", "value", "(JI)I"⟩
abbrev b_Model_value : ByteArray := prog_11_method_7_code
def y_Model_fill : MethodName := ⟨"KeyStoreModel", "fill", "(ZII)I"⟩
abbrev b_Model_fill : ByteArray := prog_11_method_8_code
def y_Model_size : MethodName := ⟨"KeyStoreModel", "size", "()I"⟩
abbrev b_Model_size : ByteArray := prog_11_method_9_code
def y_Model_entries : MethodName := ⟨"KeyStoreModel", "entries", "(I)I"⟩
abbrev b_Model_entries : ByteArray := prog_11_method_10_code
def y_Model_compare : MethodName := ⟨"KeyStoreModel", "compare", "(I)I"⟩
abbrev b_Model_compare : ByteArray := prog_11_method_11_code
def y_Model_find : MethodName := ⟨"KeyStoreModel", "find", "(I)I"⟩
abbrev b_Model_find : ByteArray := prog_11_method_12_code
def y_Model_isThere : MethodName := ⟨"KeyStoreModel", "isThere", "(II)Z"⟩
abbrev b_Model_isThere : ByteArray := prog_11_method_13_code
def y_Model_copy : MethodName := ⟨"KeyStoreModel", "copy", "(II)V"⟩
abbrev b_Model_copy : ByteArray := prog_11_method_14_code
def y_Model_pack : MethodName := ⟨"KeyStoreModel", "pack", "()V"⟩
abbrev b_Model_pack : ByteArray := prog_11_method_15_code
def y_Model_entry : MethodName := ⟨"KeyStoreModel", "entry", "(I)I"⟩
abbrev b_Model_entry : ByteArray := prog_11_method_16_code
def y_Model_isTree : MethodName := ⟨"KeyStoreModel", "isTree", "(I)Z"⟩
abbrev b_Model_isTree : ByteArray := prog_11_method_17_code
def y_Model_fails : MethodName := ⟨"KeyStoreModel", "fails", "(ZI)Z"⟩
abbrev b_Model_fails : ByteArray := prog_11_method_18_code
def y_Model_tree : MethodName := ⟨"KeyStoreModel", "tree", "()I"⟩
abbrev b_Model_tree : ByteArray := prog_11_method_19_code
def y_Model_drop : MethodName := ⟨"KeyStoreModel", "drop", "(I)I"⟩
abbrev b_Model_drop : ByteArray := prog_11_method_20_code
def y_Model_out : MethodName := ⟨"KeyStoreModel", "out", "(I)V"⟩
abbrev b_Model_out : ByteArray := prog_11_method_21_code
def y_Model_put : MethodName := ⟨"KeyStoreModel", "put", "(I)Z"⟩
abbrev b_Model_put : ByteArray := prog_11_method_22_code
def y_Model_remove : MethodName := ⟨"KeyStoreModel", "remove", "(I)Z"⟩
abbrev b_Model_remove : ByteArray := prog_11_method_23_code
def y_Model_seek : MethodName := ⟨"KeyStoreModel", "seek", "(IZ)Z"⟩
abbrev b_Model_seek : ByteArray := prog_11_method_24_code
def y_Model_take : MethodName := ⟨"KeyStoreModel", "take", "()I"⟩
abbrev b_Model_take : ByteArray := prog_11_method_25_code
def y_Model_found : MethodName := ⟨"KeyStoreModel", "found", "(II)J"⟩
abbrev b_Model_found : ByteArray := prog_11_method_26_code
def y_Model_isShut : MethodName := ⟨"KeyStoreModel", "isShut", "(Z)Z"⟩
abbrev b_Model_isShut : ByteArray := prog_11_method_27_code
def y_Model_begin : MethodName := ⟨"KeyStoreModel", "begin", "()V"⟩
abbrev b_Model_begin : ByteArray := prog_11_method_28_code
def y_Model_end : MethodName := ⟨"KeyStoreModel", "end", "()V"⟩
abbrev b_Model_end : ByteArray := prog_11_method_29_code
def y_Model_fall : MethodName := ⟨"KeyStoreModel", "fall", "()V"⟩
abbrev b_Model_fall : ByteArray := prog_11_method_30_code
def y_Model_commit : MethodName := ⟨"KeyStoreModel", "commit", "()V"⟩
abbrev b_Model_commit : ByteArray := prog_11_method_31_code
def y_Model_rollback : MethodName := ⟨"KeyStoreModel", "rollback", "()V"⟩
abbrev b_Model_rollback : ByteArray := prog_11_method_32_code
def y_Model_mark : MethodName := ⟨"KeyStoreModel", "mark", "()I"⟩
abbrev b_Model_mark : ByteArray := prog_11_method_33_code
def y_Model_isMark : MethodName := ⟨"KeyStoreModel", "isMark", "(I)Z"⟩
abbrev b_Model_isMark : ByteArray := prog_11_method_34_code
def y_Model_back : MethodName := ⟨"KeyStoreModel", "back", "(I)V"⟩
abbrev b_Model_back : ByteArray := prog_11_method_35_code
def y_Model_keep : MethodName := ⟨"KeyStoreModel", "keep", "(I)V"⟩
abbrev b_Model_keep : ByteArray := prog_11_method_36_code
def y_Model_power : MethodName := ⟨"KeyStoreModel", "power", "(III)V"⟩
abbrev b_Model_power : ByteArray := prog_11_method_37_code
def y_Model_count : MethodName := ⟨"KeyStoreModel", "count", "()I"⟩
abbrev b_Model_count : ByteArray := prog_11_method_38_code
def y_Model_reopen : MethodName := ⟨"KeyStoreModel", "reopen", "()I"⟩
abbrev b_Model_reopen : ByteArray := prog_11_method_39_code
def y_Model_told : MethodName := ⟨"KeyStoreModel", "told", "(I)I"⟩
abbrev b_Model_told : ByteArray := prog_11_method_40_code
def y_Model_check : MethodName := ⟨"KeyStoreModel", "check", "()I"⟩
abbrev b_Model_check : ByteArray := prog_11_method_41_code
def y_Chains_init : MethodName := ⟨"KeyStore$Chains", "<init>", "(LKeyStore$Pages;)V"⟩
abbrev b_Chains_init : ByteArray := prog_2_method_1_code
def y_Chains_keyLength : MethodName := ⟨"KeyStore$Chains", "keyLength", "(I)I"⟩
abbrev b_Chains_keyLength : ByteArray := prog_2_method_2_code
def y_Chains_valueLength : MethodName := ⟨"KeyStore$Chains", "valueLength", "(I)I"⟩
abbrev b_Chains_valueLength : ByteArray := prog_2_method_3_code
def y_Chains_size : MethodName := ⟨"KeyStore$Chains", "size", "(I)I"⟩
abbrev b_Chains_size : ByteArray := prog_2_method_4_code
def y_Chains_pagesFor : MethodName := ⟨"KeyStore$Chains", "pagesFor", "(I)I"⟩
abbrev b_Chains_pagesFor : ByteArray := prog_2_method_5_code
def y_Chains_store : MethodName := ⟨"KeyStore$Chains", "store", "(LKeyStore$Row;LKeyStore$Row;)I"⟩
abbrev b_Chains_store : ByteArray := prog_2_method_6_code
def y_Chains_free : MethodName := ⟨"KeyStore$Chains", "free", "(I)V"⟩
abbrev b_Chains_free : ByteArray := prog_2_method_7_code
def y_Chains_copyTo : MethodName := ⟨"KeyStore$Chains", "copyTo", "(ILKeyStore$Row;LKeyStore$Row;)V"⟩
abbrev b_Chains_copyTo : ByteArray := prog_2_method_8_code
def y_Chains_copyKeyTo : MethodName := ⟨"KeyStore$Chains", "copyKeyTo", "(ILKeyStore$Row;)V"⟩
abbrev b_Chains_copyKeyTo : ByteArray := prog_2_method_9_code
def y_Chains_compare : MethodName := ⟨"KeyStore$Chains", "compare", "(LKeyStore$Row;I)I"⟩
abbrev b_Chains_compare : ByteArray := prog_2_method_10_code
def y_Chains_write : MethodName := ⟨"KeyStore$Chains", "write", "(LKeyStore$Row;)V"⟩
abbrev b_Chains_write : ByteArray := prog_2_method_11_code
def y_Chains_read : MethodName := ⟨"KeyStore$Chains", "read", "(LKeyStore$Row;I)V"⟩
abbrev b_Chains_read : ByteArray := prog_2_method_12_code
def y_Checker_init : MethodName := ⟨"KeyStore$Checker", "<init>", "(LKeyStore$Pages;LKeyStore$Nodes;LKeyStore$Chains;LKeyStore$Trees;)V"⟩
abbrev b_Checker_init : ByteArray := prog_3_method_1_code
def y_Checker_faults : MethodName := ⟨"KeyStore$Checker", "faults", "()I"⟩
abbrev b_Checker_faults : ByteArray := prog_3_method_2_code
def y_Checker_expect : MethodName := ⟨"KeyStore$Checker", "expect", "(Z)V"⟩
abbrev b_Checker_expect : ByteArray := prog_3_method_3_code
def y_Checker_forgetClaims : MethodName := ⟨"KeyStore$Checker", "forgetClaims", "()V"⟩
abbrev b_Checker_forgetClaims : ByteArray := prog_3_method_4_code
def y_Checker_claim : MethodName := ⟨"KeyStore$Checker", "claim", "(I)Z"⟩
abbrev b_Checker_claim : ByteArray := prog_3_method_5_code
def y_Checker_expectAllClaimed : MethodName := ⟨"KeyStore$Checker", "expectAllClaimed", "()V"⟩
abbrev b_Checker_expectAllClaimed : ByteArray := prog_3_method_6_code
def y_Checker_claimFree : MethodName := ⟨"KeyStore$Checker", "claimFree", "()V"⟩
abbrev b_Checker_claimFree : ByteArray := prog_3_method_7_code
def y_Checker_claimChain : MethodName := ⟨"KeyStore$Checker", "claimChain", "(I)I"⟩
abbrev b_Checker_claimChain : ByteArray := prog_3_method_8_code
def y_Checker_walk : MethodName := ⟨"KeyStore$Checker", "walk", "(III)V"⟩
abbrev b_Checker_walk : ByteArray := prog_3_method_9_code
def y_Checker_examine : MethodName := ⟨"KeyStore$Checker", "examine", "(III)V"⟩
abbrev b_Checker_examine : ByteArray := prog_3_method_10_code
def y_Disk_init : MethodName := ⟨"KeyStore$Disk", "<init>", "()V"⟩
abbrev b_Disk_init : ByteArray := prog_4_method_1_code
def y_Disk_plan : MethodName := ⟨"KeyStore$Disk", "plan", "(III)V"⟩
abbrev b_Disk_plan : ByteArray := prog_4_method_2_code
def y_Disk_save : MethodName := ⟨"KeyStore$Disk", "save", "(LKeyStore$Pages;)Z"⟩
abbrev b_Disk_save : ByteArray := prog_4_method_3_code
def y_Disk_recover : MethodName := ⟨"KeyStore$Disk", "recover", "()Z"⟩
abbrev b_Disk_recover : ByteArray := prog_4_method_4_code
def y_Disk_load : MethodName := ⟨"KeyStore$Disk", "load", "(LKeyStore$Pages;)V"⟩
abbrev b_Disk_load : ByteArray := prog_4_method_5_code
def y_Disk_undo : MethodName := ⟨"KeyStore$Disk", "undo", "(LKeyStore$Pages;)V"⟩
abbrev b_Disk_undo : ByteArray := prog_4_method_6_code
def y_Disk_saveOld : MethodName := ⟨"KeyStore$Disk", "saveOld", "(LKeyStore$Pages;)Z"⟩
abbrev b_Disk_saveOld : ByteArray := prog_4_method_7_code
def y_Disk_saveNew : MethodName := ⟨"KeyStore$Disk", "saveNew", "(LKeyStore$Pages;)Z"⟩
abbrev b_Disk_saveNew : ByteArray := prog_4_method_8_code
def y_Disk_endSave : MethodName := ⟨"KeyStore$Disk", "endSave", "()Z"⟩
abbrev b_Disk_endSave : ByteArray := prog_4_method_9_code
def y_Disk_writeJournal : MethodName := ⟨"KeyStore$Disk", "writeJournal", "(II)Z"⟩
abbrev b_Disk_writeJournal : ByteArray := prog_4_method_10_code
def y_Disk_writeFile : MethodName := ⟨"KeyStore$Disk", "writeFile", "(III[BI)Z"⟩
abbrev b_Disk_writeFile : ByteArray := prog_4_method_11_code
def y_Disk_fails : MethodName := ⟨"KeyStore$Disk", "fails", "(II)Z"⟩
abbrev b_Disk_fails : ByteArray := prog_4_method_12_code
def y_Disk_bytesWritten : MethodName := ⟨"KeyStore$Disk", "bytesWritten", "(III)I"⟩
abbrev b_Disk_bytesWritten : ByteArray := prog_4_method_13_code
def y_Marks_init : MethodName := ⟨"KeyStore$Marks", "<init>", "()V"⟩
abbrev b_Marks_init : ByteArray := prog_5_method_1_code
def y_Marks_count : MethodName := ⟨"KeyStore$Marks", "count", "()I"⟩
abbrev b_Marks_count : ByteArray := prog_5_method_2_code
def y_Marks_add : MethodName := ⟨"KeyStore$Marks", "add", "(LKeyStore$Pages;)V"⟩
abbrev b_Marks_add : ByteArray := prog_5_method_3_code
def y_Marks_restore : MethodName := ⟨"KeyStore$Marks", "restore", "(ILKeyStore$Pages;)V"⟩
abbrev b_Marks_restore : ByteArray := prog_5_method_4_code
def y_Marks_forgetAbove : MethodName := ⟨"KeyStore$Marks", "forgetAbove", "(I)V"⟩
abbrev b_Marks_forgetAbove : ByteArray := prog_5_method_5_code
def y_Nodes_init : MethodName := ⟨"KeyStore$Nodes", "<init>", "(LKeyStore$Pages;)V"⟩
abbrev b_Nodes_init : ByteArray := prog_6_method_1_code
def y_Nodes_make : MethodName := ⟨"KeyStore$Nodes", "make", "(I)I"⟩
abbrev b_Nodes_make : ByteArray := prog_6_method_2_code
def y_Nodes_level : MethodName := ⟨"KeyStore$Nodes", "level", "(I)I"⟩
abbrev b_Nodes_level : ByteArray := prog_6_method_3_code
def y_Nodes_count : MethodName := ⟨"KeyStore$Nodes", "count", "(I)I"⟩
abbrev b_Nodes_count : ByteArray := prog_6_method_4_code
def y_Nodes_slot : MethodName := ⟨"KeyStore$Nodes", "slot", "(II)I"⟩
abbrev b_Nodes_slot : ByteArray := prog_6_method_5_code
def y_Nodes_least : MethodName := ⟨"KeyStore$Nodes", "least", "(II)I"⟩
abbrev b_Nodes_least : ByteArray := prog_6_method_6_code
def y_Nodes_isFull : MethodName := ⟨"KeyStore$Nodes", "isFull", "(I)Z"⟩
abbrev b_Nodes_isFull : ByteArray := prog_6_method_7_code
def y_Nodes_isSparse : MethodName := ⟨"KeyStore$Nodes", "isSparse", "(I)Z"⟩
abbrev b_Nodes_isSparse : ByteArray := prog_6_method_8_code
def y_Nodes_insert : MethodName := ⟨"KeyStore$Nodes", "insert", "(III)V"⟩
abbrev b_Nodes_insert : ByteArray := prog_6_method_9_code
def y_Nodes_delete : MethodName := ⟨"KeyStore$Nodes", "delete", "(II)V"⟩
abbrev b_Nodes_delete : ByteArray := prog_6_method_10_code
def y_Nodes_setSlot : MethodName := ⟨"KeyStore$Nodes", "setSlot", "(III)V"⟩
abbrev b_Nodes_setSlot : ByteArray := prog_6_method_11_code
def y_Nodes_split : MethodName := ⟨"KeyStore$Nodes", "split", "(I)I"⟩
abbrev b_Nodes_split : ByteArray := prog_6_method_12_code
def y_Nodes_merge : MethodName := ⟨"KeyStore$Nodes", "merge", "(II)Z"⟩
abbrev b_Nodes_merge : ByteArray := prog_6_method_13_code
def y_Nodes_share : MethodName := ⟨"KeyStore$Nodes", "share", "(III)V"⟩
abbrev b_Nodes_share : ByteArray := prog_6_method_14_code
def y_Nodes_setCount : MethodName := ⟨"KeyStore$Nodes", "setCount", "(II)V"⟩
abbrev b_Nodes_setCount : ByteArray := prog_6_method_15_code
def y_Pages_init : MethodName := ⟨"KeyStore$Pages", "<init>", "()V"⟩
abbrev b_Pages_init : ByteArray := prog_7_method_1_code
def y_Pages_bytes : MethodName := ⟨"KeyStore$Pages", "bytes", "()[B"⟩
abbrev b_Pages_bytes : ByteArray := prog_7_method_2_code
def y_Pages_isChanged : MethodName := ⟨"KeyStore$Pages", "isChanged", "(I)Z"⟩
abbrev b_Pages_isChanged : ByteArray := prog_7_method_3_code
def y_Pages_forgetChanges : MethodName := ⟨"KeyStore$Pages", "forgetChanges", "()V"⟩
abbrev b_Pages_forgetChanges : ByteArray := prog_7_method_4_code
def y_Pages_undoChanges : MethodName := ⟨"KeyStore$Pages", "undoChanges", "([B)V"⟩
abbrev b_Pages_undoChanges : ByteArray := prog_7_method_5_code
def y_Pages_used : MethodName := ⟨"KeyStore$Pages", "used", "()I"⟩
abbrev b_Pages_used : ByteArray := prog_7_method_6_code
def y_Pages_saveTo : MethodName := ⟨"KeyStore$Pages", "saveTo", "([B)V"⟩
abbrev b_Pages_saveTo : ByteArray := prog_7_method_7_code
def y_Pages_load : MethodName := ⟨"KeyStore$Pages", "load", "([B)V"⟩
abbrev b_Pages_load : ByteArray := prog_7_method_8_code
def y_Pages_number : MethodName := ⟨"KeyStore$Pages", "number", "(I)I"⟩
abbrev b_Pages_number : ByteArray := prog_7_method_9_code
def y_Pages_setNumber : MethodName := ⟨"KeyStore$Pages", "setNumber", "(II)V"⟩
abbrev b_Pages_setNumber : ByteArray := prog_7_method_10_code
def y_Pages_addTo : MethodName := ⟨"KeyStore$Pages", "addTo", "(II)V"⟩
abbrev b_Pages_addTo : ByteArray := prog_7_method_11_code
def y_Pages_write : MethodName := ⟨"KeyStore$Pages", "write", "(LKeyStore$Row;III)V"⟩
abbrev b_Pages_write : ByteArray := prog_7_method_12_code
def y_Pages_newPage : MethodName := ⟨"KeyStore$Pages", "newPage", "()I"⟩
abbrev b_Pages_newPage : ByteArray := prog_7_method_13_code
def y_Pages_freePage : MethodName := ⟨"KeyStore$Pages", "freePage", "(I)V"⟩
abbrev b_Pages_freePage : ByteArray := prog_7_method_14_code
def y_Row_init : MethodName := ⟨"KeyStore$Row", "<init>", "()V"⟩
abbrev b_Row_init : ByteArray := prog_8_method_1_code
def y_Row_length : MethodName := ⟨"KeyStore$Row", "length", "()I"⟩
abbrev b_Row_length : ByteArray := prog_8_method_2_code
def y_Row_clear : MethodName := ⟨"KeyStore$Row", "clear", "()V"⟩
abbrev b_Row_clear : ByteArray := prog_8_method_3_code
def y_Row_hasRoom : MethodName := ⟨"KeyStore$Row", "hasRoom", "(I)Z"⟩
abbrev b_Row_hasRoom : ByteArray := prog_8_method_4_code
def y_Row_append : MethodName := ⟨"KeyStore$Row", "append", "(JI)V"⟩
abbrev b_Row_append : ByteArray := prog_8_method_5_code
def y_Row_appendSame : MethodName := ⟨"KeyStore$Row", "appendSame", "(II)V"⟩
abbrev b_Row_appendSame : ByteArray := prog_8_method_6_code
def y_Row_appendFrom : MethodName := ⟨"KeyStore$Row", "appendFrom", "([BII)V"⟩
abbrev b_Row_appendFrom : ByteArray := prog_8_method_7_code
def y_Row_become : MethodName := ⟨"KeyStore$Row", "become", "(LKeyStore$Row;)V"⟩
abbrev b_Row_become : ByteArray := prog_8_method_8_code
def y_Row_word : MethodName := ⟨"KeyStore$Row", "word", "(I)J"⟩
abbrev b_Row_word : ByteArray := prog_8_method_9_code
def y_Row_difference : MethodName := ⟨"KeyStore$Row", "difference", "(II[BI)I"⟩
abbrev b_Row_difference : ByteArray := prog_8_method_10_code
def y_Trees_init : MethodName := ⟨"KeyStore$Trees", "<init>", "(LKeyStore$Pages;LKeyStore$Nodes;LKeyStore$Chains;)V"⟩
abbrev b_Trees_init : ByteArray := prog_9_method_1_code
def y_Trees_has : MethodName := ⟨"KeyStore$Trees", "has", "(I)Z"⟩
abbrev b_Trees_has : ByteArray := prog_9_method_2_code
def y_Trees_root : MethodName := ⟨"KeyStore$Trees", "root", "(I)I"⟩
abbrev b_Trees_root : ByteArray := prog_9_method_3_code
def y_Trees_entries : MethodName := ⟨"KeyStore$Trees", "entries", "(I)I"⟩
abbrev b_Trees_entries : ByteArray := prog_9_method_4_code
def y_Trees_leastUnused : MethodName := ⟨"KeyStore$Trees", "leastUnused", "()I"⟩
abbrev b_Trees_leastUnused : ByteArray := prog_9_method_5_code
def y_Trees_addTree : MethodName := ⟨"KeyStore$Trees", "addTree", "(I)V"⟩
abbrev b_Trees_addTree : ByteArray := prog_9_method_6_code
def y_Trees_dropTree : MethodName := ⟨"KeyStore$Trees", "dropTree", "(I)I"⟩
abbrev b_Trees_dropTree : ByteArray := prog_9_method_7_code
def y_Trees_descend : MethodName := ⟨"KeyStore$Trees", "descend", "(ILKeyStore$Row;)V"⟩
abbrev b_Trees_descend : ByteArray := prog_9_method_8_code
def y_Trees_lookUp : MethodName := ⟨"KeyStore$Trees", "lookUp", "(ILKeyStore$Row;)I"⟩
abbrev b_Trees_lookUp : ByteArray := prog_9_method_9_code
def y_Trees_leadsTo : MethodName := ⟨"KeyStore$Trees", "leadsTo", "(II)Z"⟩
abbrev b_Trees_leadsTo : ByteArray := prog_9_method_10_code
def y_Trees_firstFrom : MethodName := ⟨"KeyStore$Trees", "firstFrom", "(ILKeyStore$Row;Z)I"⟩
abbrev b_Trees_firstFrom : ByteArray := prog_9_method_11_code
def y_Trees_replaceHere : MethodName := ⟨"KeyStore$Trees", "replaceHere", "(LKeyStore$Row;LKeyStore$Row;)V"⟩
abbrev b_Trees_replaceHere : ByteArray := prog_9_method_12_code
def y_Trees_insertHere : MethodName := ⟨"KeyStore$Trees", "insertHere", "(ILKeyStore$Row;LKeyStore$Row;)V"⟩
abbrev b_Trees_insertHere : ByteArray := prog_9_method_13_code
def y_Trees_deleteHere : MethodName := ⟨"KeyStore$Trees", "deleteHere", "(I)V"⟩
abbrev b_Trees_deleteHere : ByteArray := prog_9_method_14_code
def y_Trees_setRoot : MethodName := ⟨"KeyStore$Trees", "setRoot", "(II)V"⟩
abbrev b_Trees_setRoot : ByteArray := prog_9_method_15_code
def y_Trees_rank : MethodName := ⟨"KeyStore$Trees", "rank", "(ILKeyStore$Row;Z)I"⟩
abbrev b_Trees_rank : ByteArray := prog_9_method_16_code
def y_Trees_insertSlot : MethodName := ⟨"KeyStore$Trees", "insertSlot", "(II)V"⟩
abbrev b_Trees_insertSlot : ByteArray := prog_9_method_17_code
def y_Trees_raiseRoot : MethodName := ⟨"KeyStore$Trees", "raiseRoot", "(II)V"⟩
abbrev b_Trees_raiseRoot : ByteArray := prog_9_method_18_code
def y_Trees_mendPath : MethodName := ⟨"KeyStore$Trees", "mendPath", "()V"⟩
abbrev b_Trees_mendPath : ByteArray := prog_9_method_19_code
def y_Trees_lowerRoot : MethodName := ⟨"KeyStore$Trees", "lowerRoot", "(I)V"⟩
abbrev b_Trees_lowerRoot : ByteArray := prog_9_method_20_code
def y_Trees_free : MethodName := ⟨"KeyStore$Trees", "free", "(II)V"⟩
abbrev b_Trees_free : ByteArray := prog_9_method_21_code
def y_Law_key : MethodName := ⟨"KeyStoreLaw", "key", "(LKeyStore;JI[J)I"⟩
abbrev b_Law_key : ByteArray := method_3_code
def y_Law_value : MethodName := ⟨"KeyStoreLaw", "value", "(LKeyStore;JI[J)I"⟩
abbrev b_Law_value : ByteArray := method_4_code
def y_Law_fill : MethodName := ⟨"KeyStoreLaw", "fill", "(LKeyStore;ZII[J)I"⟩
abbrev b_Law_fill : ByteArray := method_5_code
def y_Law_tree : MethodName := ⟨"KeyStoreLaw", "tree", "(LKeyStore;[J)I"⟩
abbrev b_Law_tree : ByteArray := method_6_code
def y_Law_drop : MethodName := ⟨"KeyStoreLaw", "drop", "(LKeyStore;I[J)I"⟩
abbrev b_Law_drop : ByteArray := method_7_code
def y_Law_put : MethodName := ⟨"KeyStoreLaw", "put", "(LKeyStore;I[J)I"⟩
abbrev b_Law_put : ByteArray := method_8_code
def y_Law_remove : MethodName := ⟨"KeyStoreLaw", "remove", "(LKeyStore;I[J)I"⟩
abbrev b_Law_remove : ByteArray := method_9_code
def y_Law_seek : MethodName := ⟨"KeyStoreLaw", "seek", "(LKeyStore;IZ[J)I"⟩
abbrev b_Law_seek : ByteArray := method_10_code
def y_Law_take : MethodName := ⟨"KeyStoreLaw", "take", "(LKeyStore;[J)I"⟩
abbrev b_Law_take : ByteArray := method_11_code
def y_Law_found : MethodName := ⟨"KeyStoreLaw", "found", "(LKeyStore;II[J)I"⟩
abbrev b_Law_found : ByteArray := method_12_code
def y_Law_begin : MethodName := ⟨"KeyStoreLaw", "begin", "(LKeyStore;)I"⟩
abbrev b_Law_begin : ByteArray := method_13_code
def y_Law_commit : MethodName := ⟨"KeyStoreLaw", "commit", "(LKeyStore;)I"⟩
abbrev b_Law_commit : ByteArray := method_14_code
def y_Law_rollback : MethodName := ⟨"KeyStoreLaw", "rollback", "(LKeyStore;)I"⟩
abbrev b_Law_rollback : ByteArray := method_15_code
def y_Law_mark : MethodName := ⟨"KeyStoreLaw", "mark", "(LKeyStore;[J)I"⟩
abbrev b_Law_mark : ByteArray := method_16_code
def y_Law_back : MethodName := ⟨"KeyStoreLaw", "back", "(LKeyStore;I)I"⟩
abbrev b_Law_back : ByteArray := method_17_code
def y_Law_keep : MethodName := ⟨"KeyStoreLaw", "keep", "(LKeyStore;I)I"⟩
abbrev b_Law_keep : ByteArray := method_18_code
def y_Law_power : MethodName := ⟨"KeyStoreLaw", "power", "(LKeyStore;III)I"⟩
abbrev b_Law_power : ByteArray := method_19_code
def y_Law_reopen : MethodName := ⟨"KeyStoreLaw", "reopen", "(LKeyStore;[J)I"⟩
abbrev b_Law_reopen : ByteArray := method_20_code
def y_Law_told : MethodName := ⟨"KeyStoreLaw", "told", "(LKeyStore;I[J)I"⟩
abbrev b_Law_told : ByteArray := method_21_code
def y_Law_check : MethodName := ⟨"KeyStoreLaw", "check", "(LKeyStore;[J)I"⟩
abbrev b_Law_check : ByteArray := method_22_code
end
section
/-! a walk's judgement: world, locals by their places, pc, stack; all else is in E -/
abbrev ks_E : Type := Program × Launch × Env × Room × State × MethodId × Array Value × List Frame × Method × Code × (State → Prop) × (Nat → Prop)
def ks_lv (lo : List (Option Value)) : List (Nat × Value) := (List.range lo.length).filterMap (fun i => (lo[i]?.join).map (fun v => (i, v)))
theorem ks_lv_mem {lo : List (Option Value)} {q : Nat × Value} : q ∈ ks_lv lo ↔ lo[q.1]? = some (some q.2) := by
  unfold ks_lv
  rw [List.mem_filterMap]
  constructor
  · rintro ⟨i, hi, h⟩
    cases h1 : lo[i]? with
    | none => rw [h1] at h; simp at h
    | some o =>
      cases o with
      | none => rw [h1] at h; simp at h
      | some v =>
        rw [h1] at h
        simp at h
        subst h
        exact h1
  · intro h
    refine ⟨q.1, List.mem_range.mpr ?_, ?_⟩
    · exact (List.getElem?_eq_some_iff.mp h).1
    · rw [h]; rfl
theorem ks_lv_at {ls : Array Slot} {nL : Nat} {lo : List (Option Value)} (h : lv_has ls nL (ks_lv lo)) {i : Nat} {v : Value} (hi : lo[i]? = some (some v)) : ls[i]? = some (.val v) := h.2.2 (i, v) (ks_lv_mem.mpr hi)
theorem ks_lv_sub {ls : Array Slot} {nL : Nat} {l l' : List (Nat × Value)} (h : lv_has ls nL l) (hs : ∀ q ∈ l', q ∈ l) : lv_has ls nL l' := ⟨h.1, h.2.1, fun q hq => h.2.2 q (hs q hq)⟩
/-- the place before i holds no long -/
def ks_ok1 (lo : List (Option Value)) (i : Nat) : Bool := match i with
  | 0 => true
  | j + 1 => match lo[j]? with
    | some (some w) => w.category == 1
    | _ => true
theorem ks_set1 {lo : List (Option Value)} {i : Nat} {v : Value} (hk : ks_ok1 lo i = true) : ∀ q ∈ ks_lv (lo.set i (some v)), q ∈ (i, v) :: (ks_lv lo).filter (fun q => !(q.1 == i) && !(q.1 + 1 == i && q.2.category == 2)) := by
  intro q hq
  have h := ks_lv_mem.mp hq
  rw [List.getElem?_set] at h
  by_cases e : i = q.1
  · rw [if_pos e] at h
    subst e
    split at h
    · have : v = q.2 := by simpa using h
      rw [this]
      exact List.mem_cons_self
    · cases h
  · rw [if_neg e] at h
    refine List.mem_cons_of_mem _ (List.mem_filter.mpr ⟨ks_lv_mem.mpr h, ?_⟩)
    have e1 : (q.1 == i) = false := by simp; exact fun z => e z.symm
    rw [e1]
    cases i with
    | zero => simp
    | succ j =>
      by_cases e2 : q.1 = j
      · have hk' : (match lo[j]? with | some (some w) => w.category == 1 | _ => true) = true := hk
        rw [← e2, h] at hk'
        have : q.2.category = 1 := by simpa using hk'
        simp [this]
      · have : (q.1 + 1 == j + 1) = false := by simp; exact e2
        simp [this]
theorem ks_set2 {lo : List (Option Value)} {i : Nat} {v : Value} (hk : ks_ok1 lo i = true) : ∀ q ∈ ks_lv ((lo.set (i + 1) none).set i (some v)), q ∈ (i, v) :: (ks_lv lo).filter (fun q => !(q.1 == i) && (!(q.1 == i + 1) && !(q.1 + 1 == i && q.2.category == 2))) := by
  intro q hq
  have h := ks_lv_mem.mp hq
  rw [List.getElem?_set] at h
  by_cases e : i = q.1
  · rw [if_pos e] at h
    subst e
    split at h
    · have : v = q.2 := by simpa using h
      rw [this]
      exact List.mem_cons_self
    · cases h
  · rw [if_neg e, List.getElem?_set] at h
    by_cases e3 : i + 1 = q.1
    · rw [if_pos e3] at h
      split at h <;> cases h
    · rw [if_neg e3] at h
      refine List.mem_cons_of_mem _ (List.mem_filter.mpr ⟨ks_lv_mem.mpr h, ?_⟩)
      have e1 : (q.1 == i) = false := by simp; exact fun z => e z.symm
      have e4 : (q.1 == i + 1) = false := by simp; exact fun z => e3 z.symm
      rw [e1, e4]
      cases i with
      | zero => simp
      | succ j =>
        by_cases e2 : q.1 = j
        · have hk' : (match lo[j]? with | some (some w) => w.category == 1 | _ => true) = true := hk
          rw [← e2, h] at hk'
          have : q.2.category = 1 := by simpa using hk'
          simp [this]
        · have : (q.1 + 1 == j + 1) = false := by simp; exact e2
          simp [this]
def ks_w (E : ks_E) (D : va_G) (nL : Nat) (ws : va_W) (lo : List (Option Value)) (cs ss pc : Nat) (st : List Value) : Prop :=
  match E with
  | (p, l, e, R, s, m, args, below, meth, c, Q, A) => ∀ (H : Heap) (locs : List Loc) (ls : Array Slot), va_P D vwCl ws H → va_D A ws → va_S A s.heap H locs → lv_has ls nL (ks_lv lo) → W p l e R s m args below meth c H locs cs ss Q (F0 m pc ls st)
def ks_ok (E : ks_E) (l0 : Launch) (D : va_G) (tys : List (ClassId × FieldType)) (R0 : Room) (cc : ByteArray) (nL : Nat) (own : String) : Prop :=
  match E with
  | (p, l, _, R, s, m, args, _, meth, c, _, A) => l = l0 ∧ R = R0 ∧ p.tables.exec = Jvm.exec ∧ c.code = cc ∧ c.maxLocals = nL ∧ s.vm.findClass own = some m.cls ∧ (∀ w ∈ ks_tbl, w.before args s = true) ∧ va_K D vwCl tys s ∧ (∀ q, s.heap.size ≤ q → A q) ∧ meth.locks = false
section KSR
variable {E : ks_E} {l0 : Launch} {D : va_G} {tys : List (ClassId × FieldType)} {R0 : Room} {cc : ByteArray} {nL : Nat} {own : String} {ws : va_W} {lo : List (Option Value)} {cs ss pc : Nat} {st : List Value}
/-- the world said anew -/
theorem ks_ws {ws' : va_W} (h : ws = ws') (k : ks_w E D nL ws' lo cs ss pc st) : ks_w E D nL ws lo cs ss pc st := h ▸ k
theorem ks_st {st' : List Value} (h : st = st') (k : ks_w E D nL ws lo cs ss pc st') : ks_w E D nL ws lo cs ss pc st := h ▸ k
theorem ks_lo {lo' : List (Option Value)} (h : ∀ (i : Nat) (v : Value), lo'[i]? = some (some v) → lo[i]? = some (some v)) (k : ks_w E D nL ws lo' cs ss pc st) : ks_w E D nL ws lo cs ss pc st := by
  obtain ⟨p, l, e, R, s, m, args, below, meth, c, Q, A⟩ := E
  intro H locs ls hP hD hS hl
  exact k H locs ls hP hD hS (ks_lv_sub hl (fun q hq => ks_lv_mem.mpr (h _ _ (ks_lv_mem.mp hq))))
theorem ks_pc {pc' : Nat} (h : pc = pc') (k : ks_w E D nL ws lo cs ss pc' st) : ks_w E D nL ws lo cs ss pc st := h ▸ k
theorem ks_iload_n {n : Fin 4} {i : Nat} {x : Int32} (hi : (n : Nat) = i) (hv : lo[i]? = some (some (.int x))) (C : ks_ok E l0 D tys R0 cc nL own) (hd : decode cc pc = .ok (.iload_n n, 1)) (k : ks_w E D nL ws lo cs ss (pc + 1) (.int x :: st)) : ks_w E D nL ws lo cs ss pc st := by
  obtain ⟨p, l, e, R, s, m, args, below, meth, c, Q, A⟩ := E
  obtain ⟨-, -, hx, hb, hml, hown, hts, hK, hA, hlocks⟩ := C
  intro H locs ls hP hD hS hl
  refine lv_iload_n hx hb hd hi (ks_lv_at hl hv) ?_
  exact k H locs ls hP hD hS hl
theorem ks_iload {i : Nat} {x : Int32} (hv : lo[i]? = some (some (.int x))) (C : ks_ok E l0 D tys R0 cc nL own) (hd : decode cc pc = .ok (.iload i, 2)) (k : ks_w E D nL ws lo cs ss (pc + 2) (.int x :: st)) : ks_w E D nL ws lo cs ss pc st := by
  obtain ⟨p, l, e, R, s, m, args, below, meth, c, Q, A⟩ := E
  obtain ⟨-, -, hx, hb, hml, hown, hts, hK, hA, hlocks⟩ := C
  intro H locs ls hP hD hS hl
  refine lv_iload hx hb hd (ks_lv_at hl hv) ?_
  exact k H locs ls hP hD hS hl
theorem ks_lload_n {n : Fin 4} {i : Nat} {x : Int64} (hi : (n : Nat) = i) (hv : lo[i]? = some (some (.long x))) (C : ks_ok E l0 D tys R0 cc nL own) (hd : decode cc pc = .ok (.lload_n n, 1)) (k : ks_w E D nL ws lo cs ss (pc + 1) (.long x :: st)) : ks_w E D nL ws lo cs ss pc st := by
  obtain ⟨p, l, e, R, s, m, args, below, meth, c, Q, A⟩ := E
  obtain ⟨-, -, hx, hb, hml, hown, hts, hK, hA, hlocks⟩ := C
  intro H locs ls hP hD hS hl
  refine lv_lload_n hx hb hd hi (ks_lv_at hl hv) ?_
  exact k H locs ls hP hD hS hl
theorem ks_lload {i : Nat} {x : Int64} (hv : lo[i]? = some (some (.long x))) (C : ks_ok E l0 D tys R0 cc nL own) (hd : decode cc pc = .ok (.lload i, 2)) (k : ks_w E D nL ws lo cs ss (pc + 2) (.long x :: st)) : ks_w E D nL ws lo cs ss pc st := by
  obtain ⟨p, l, e, R, s, m, args, below, meth, c, Q, A⟩ := E
  obtain ⟨-, -, hx, hb, hml, hown, hts, hK, hA, hlocks⟩ := C
  intro H locs ls hP hD hS hl
  refine lv_lload hx hb hd (ks_lv_at hl hv) ?_
  exact k H locs ls hP hD hS hl
theorem ks_aload_n {n : Fin 4} {i : Nat} {x : Nat} (hi : (n : Nat) = i) (hv : lo[i]? = some (some (.ref x))) (C : ks_ok E l0 D tys R0 cc nL own) (hd : decode cc pc = .ok (.aload_n n, 1)) (k : ks_w E D nL ws lo cs ss (pc + 1) (.ref x :: st)) : ks_w E D nL ws lo cs ss pc st := by
  obtain ⟨p, l, e, R, s, m, args, below, meth, c, Q, A⟩ := E
  obtain ⟨-, -, hx, hb, hml, hown, hts, hK, hA, hlocks⟩ := C
  intro H locs ls hP hD hS hl
  refine lv_aload_n hx hb hd hi (ks_lv_at hl hv) ?_
  exact k H locs ls hP hD hS hl
theorem ks_aload {i : Nat} {x : Nat} (hv : lo[i]? = some (some (.ref x))) (C : ks_ok E l0 D tys R0 cc nL own) (hd : decode cc pc = .ok (.aload i, 2)) (k : ks_w E D nL ws lo cs ss (pc + 2) (.ref x :: st)) : ks_w E D nL ws lo cs ss pc st := by
  obtain ⟨p, l, e, R, s, m, args, below, meth, c, Q, A⟩ := E
  obtain ⟨-, -, hx, hb, hml, hown, hts, hK, hA, hlocks⟩ := C
  intro H locs ls hP hD hS hl
  refine lv_aload hx hb hd (ks_lv_at hl hv) ?_
  exact k H locs ls hP hD hS hl
theorem ks_istore_n {n : Fin 4} {i : Nat} {x : Int32} (C : ks_ok E l0 D tys R0 cc nL own) (hi : (n : Nat) = i) (hn : i < nL) (hk : ks_ok1 lo i = true) (hd : decode cc pc = .ok (.istore_n n, 1)) (k : ks_w E D nL ws (lo.set i (some (.int x))) cs ss (pc + 1) st) : ks_w E D nL ws lo cs ss pc (.int x :: st) := by
  obtain ⟨p, l, e, R, s, m, args, below, meth, c, Q, A⟩ := E
  obtain ⟨-, -, hx, hb, hml, hown, hts, hK, hA, hlocks⟩ := C
  intro H locs ls hP hD hS hl
  exact lv_istore_n hx hb hd hi hl hn rfl (fun ls' hl' => k H locs ls' hP hD hS (ks_lv_sub hl' (ks_set1 hk)))
theorem ks_istore {i : Nat} {x : Int32} (C : ks_ok E l0 D tys R0 cc nL own) (hn : i < nL) (hk : ks_ok1 lo i = true) (hd : decode cc pc = .ok (.istore i, 2)) (k : ks_w E D nL ws (lo.set i (some (.int x))) cs ss (pc + 2) st) : ks_w E D nL ws lo cs ss pc (.int x :: st) := by
  obtain ⟨p, l, e, R, s, m, args, below, meth, c, Q, A⟩ := E
  obtain ⟨-, -, hx, hb, hml, hown, hts, hK, hA, hlocks⟩ := C
  intro H locs ls hP hD hS hl
  exact lv_istore hx hb hd hl hn rfl (fun ls' hl' => k H locs ls' hP hD hS (ks_lv_sub hl' (ks_set1 hk)))
theorem ks_astore_n {n : Fin 4} {i : Nat} {x : Nat} (C : ks_ok E l0 D tys R0 cc nL own) (hi : (n : Nat) = i) (hn : i < nL) (hk : ks_ok1 lo i = true) (hd : decode cc pc = .ok (.astore_n n, 1)) (k : ks_w E D nL ws (lo.set i (some (.ref x))) cs ss (pc + 1) st) : ks_w E D nL ws lo cs ss pc (.ref x :: st) := by
  obtain ⟨p, l, e, R, s, m, args, below, meth, c, Q, A⟩ := E
  obtain ⟨-, -, hx, hb, hml, hown, hts, hK, hA, hlocks⟩ := C
  intro H locs ls hP hD hS hl
  exact lv_astore_n hx hb hd hi hl hn rfl (fun ls' hl' => k H locs ls' hP hD hS (ks_lv_sub hl' (ks_set1 hk)))
theorem ks_astore {i : Nat} {x : Nat} (C : ks_ok E l0 D tys R0 cc nL own) (hn : i < nL) (hk : ks_ok1 lo i = true) (hd : decode cc pc = .ok (.astore i, 2)) (k : ks_w E D nL ws (lo.set i (some (.ref x))) cs ss (pc + 2) st) : ks_w E D nL ws lo cs ss pc (.ref x :: st) := by
  obtain ⟨p, l, e, R, s, m, args, below, meth, c, Q, A⟩ := E
  obtain ⟨-, -, hx, hb, hml, hown, hts, hK, hA, hlocks⟩ := C
  intro H locs ls hP hD hS hl
  exact lv_astore hx hb hd hl hn rfl (fun ls' hl' => k H locs ls' hP hD hS (ks_lv_sub hl' (ks_set1 hk)))
theorem ks_lstore_n {n : Fin 4} {i : Nat} {x : Int64} (C : ks_ok E l0 D tys R0 cc nL own) (hi : (n : Nat) = i) (hn : i + 1 < nL) (hk : ks_ok1 lo i = true) (hd : decode cc pc = .ok (.lstore_n n, 1)) (k : ks_w E D nL ws ((lo.set (i + 1) none).set i (some (.long x))) cs ss (pc + 1) st) : ks_w E D nL ws lo cs ss pc (.long x :: st) := by
  obtain ⟨p, l, e, R, s, m, args, below, meth, c, Q, A⟩ := E
  obtain ⟨-, -, hx, hb, hml, hown, hts, hK, hA, hlocks⟩ := C
  intro H locs ls hP hD hS hl
  exact lv_lstore_n hx hb hd hi hl hn rfl (fun ls' hl' => k H locs ls' hP hD hS (ks_lv_sub hl' (ks_set2 hk)))
theorem ks_lstore {i : Nat} {x : Int64} (C : ks_ok E l0 D tys R0 cc nL own) (hn : i + 1 < nL) (hk : ks_ok1 lo i = true) (hd : decode cc pc = .ok (.lstore i, 2)) (k : ks_w E D nL ws ((lo.set (i + 1) none).set i (some (.long x))) cs ss (pc + 2) st) : ks_w E D nL ws lo cs ss pc (.long x :: st) := by
  obtain ⟨p, l, e, R, s, m, args, below, meth, c, Q, A⟩ := E
  obtain ⟨-, -, hx, hb, hml, hown, hts, hK, hA, hlocks⟩ := C
  intro H locs ls hP hD hS hl
  exact lv_lstore hx hb hd hl hn rfl (fun ls' hl' => k H locs ls' hP hD hS (ks_lv_sub hl' (ks_set2 hk)))
theorem ks_iinc {i a z : Nat} {n : Int} (C : ks_ok E l0 D tys R0 cc nL own) (hv : lo[i]? = some (some (.int (nI a)))) (hz : n = (z : Int)) (hn : i < nL) (hk : ks_ok1 lo i = true) (hd : decode cc pc = .ok (.iinc i n, 3)) (k : ks_w E D nL ws (lo.set i (some (.int (nI (a + z))))) cs ss (pc + 3) st) : ks_w E D nL ws lo cs ss pc st := by
  obtain ⟨p, l, e, R, s, m, args, below, meth, c, Q, A⟩ := E
  obtain ⟨-, -, hx, hb, hml, hown, hts, hK, hA, hlocks⟩ := C
  intro H locs ls hP hD hS hl
  obtain ⟨j, hj⟩ := List.getElem?_of_mem (ks_lv_mem.mpr hv : (i, Value.int (nI a)) ∈ ks_lv lo)
  exact lv_iinc (v := nI (a + z)) hx hb hd hl hj (by rw [hz, ← nI_add]; rfl) hn rfl (fun ls' hl' => k H locs ls' hP hD hS (ks_lv_sub hl' (ks_set1 hk)))
theorem ks_idec {i a : Nat} (C : ks_ok E l0 D tys R0 cc nL own) (hv : lo[i]? = some (some (.int (nI (a + 1))))) (hn : i < nL) (hk : ks_ok1 lo i = true) (hd : decode cc pc = .ok (.iinc i (-1), 3)) (k : ks_w E D nL ws (lo.set i (some (.int (nI a)))) cs ss (pc + 3) st) : ks_w E D nL ws lo cs ss pc st := by
  obtain ⟨p, l, e, R, s, m, args, below, meth, c, Q, A⟩ := E
  obtain ⟨-, -, hx, hb, hml, hown, hts, hK, hA, hlocks⟩ := C
  intro H locs ls hP hD hS hl
  obtain ⟨j, hj⟩ := List.getElem?_of_mem (ks_lv_mem.mpr hv : (i, Value.int (nI (a + 1))) ∈ ks_lv lo)
  exact lv_iinc (v := nI a) hx hb hd hl hj (by rw [← pk_m1 a]; rfl) hn rfl (fun ls' hl' => k H locs ls' hP hD hS (ks_lv_sub hl' (ks_set1 hk)))
theorem ks_iincI {i : Nat} {n : Int} {x : Int32} (C : ks_ok E l0 D tys R0 cc nL own) (hv : lo[i]? = some (some (.int x))) (hn : i < nL) (hk : ks_ok1 lo i = true) (hd : decode cc pc = .ok (.iinc i n, 3)) (k : ks_w E D nL ws (lo.set i (some (.int (x + Int32.ofInt n)))) cs ss (pc + 3) st) : ks_w E D nL ws lo cs ss pc st := by
  obtain ⟨p, l, e, R, s, m, args, below, meth, c, Q, A⟩ := E
  obtain ⟨-, -, hx, hb, hml, hown, hts, hK, hA, hlocks⟩ := C
  intro H locs ls hP hD hS hl
  obtain ⟨j, hj⟩ := List.getElem?_of_mem (ks_lv_mem.mpr hv : (i, Value.int x) ∈ ks_lv lo)
  exact lv_iinc (v := x + Int32.ofInt n) hx hb hd hl hj rfl hn rfl (fun ls' hl' => k H locs ls' hP hD hS (ks_lv_sub hl' (ks_set1 hk)))
theorem ks_iconst {n : Int} {a : Nat} (hv : Int32.ofInt n = nI a) (C : ks_ok E l0 D tys R0 cc nL own) (hd : decode cc pc = .ok (.iconst n, 1)) (k : ks_w E D nL ws lo cs ss (pc + 1) (.int (nI a) :: st)) : ks_w E D nL ws lo cs ss pc st := by
  obtain ⟨p, l, e, R, s, m, args, below, meth, c, Q, A⟩ := E
  obtain ⟨-, -, hx, hb, hml, hown, hts, hK, hA, hlocks⟩ := C
  intro H locs ls hP hD hS hl
  refine lv_iconst hx hb hd hv ?_
  exact k H locs ls hP hD hS hl
theorem ks_bipush {n : Int} {a : Nat} (hv : (Int8.ofInt n).toInt32 = nI a) (C : ks_ok E l0 D tys R0 cc nL own) (hd : decode cc pc = .ok (.bipush n, 2)) (k : ks_w E D nL ws lo cs ss (pc + 2) (.int (nI a) :: st)) : ks_w E D nL ws lo cs ss pc st := by
  obtain ⟨p, l, e, R, s, m, args, below, meth, c, Q, A⟩ := E
  obtain ⟨-, -, hx, hb, hml, hown, hts, hK, hA, hlocks⟩ := C
  intro H locs ls hP hD hS hl
  refine lv_bipush hx hb hd hv ?_
  exact k H locs ls hP hD hS hl
theorem ks_sipush {n : Int} {a : Nat} (hv : (Int16.ofInt n).toInt32 = nI a) (C : ks_ok E l0 D tys R0 cc nL own) (hd : decode cc pc = .ok (.sipush n, 3)) (k : ks_w E D nL ws lo cs ss (pc + 3) (.int (nI a) :: st)) : ks_w E D nL ws lo cs ss pc st := by
  obtain ⟨p, l, e, R, s, m, args, below, meth, c, Q, A⟩ := E
  obtain ⟨-, -, hx, hb, hml, hown, hts, hK, hA, hlocks⟩ := C
  intro H locs ls hP hD hS hl
  refine lv_sipush hx hb hd hv ?_
  exact k H locs ls hP hD hS hl
theorem ks_iconstI {n : Int} {x : Int32} (hv : Int32.ofInt n = x) (C : ks_ok E l0 D tys R0 cc nL own) (hd : decode cc pc = .ok (.iconst n, 1)) (k : ks_w E D nL ws lo cs ss (pc + 1) (.int x :: st)) : ks_w E D nL ws lo cs ss pc st := by
  obtain ⟨p, l, e, R, s, m, args, below, meth, c, Q, A⟩ := E
  obtain ⟨-, -, hx, hb, hml, hown, hts, hK, hA, hlocks⟩ := C
  intro H locs ls hP hD hS hl
  refine lv_iconst hx hb hd hv ?_
  exact k H locs ls hP hD hS hl
theorem ks_lconst {n : Fin 2} {x : Int64} (hv : Int64.ofNat (n : Nat) = x) (C : ks_ok E l0 D tys R0 cc nL own) (hd : decode cc pc = .ok (.lconst n, 1)) (k : ks_w E D nL ws lo cs ss (pc + 1) (.long x :: st)) : ks_w E D nL ws lo cs ss pc st := by
  obtain ⟨p, l, e, R, s, m, args, below, meth, c, Q, A⟩ := E
  obtain ⟨-, -, hx, hb, hml, hown, hts, hK, hA, hlocks⟩ := C
  intro H locs ls hP hD hS hl
  refine lv_lconst hx hb hd hv ?_
  exact k H locs ls hP hD hS hl
theorem ks_ldc {i a : Nat} (hc : Jvm.Cond.constant own i (nI a) ∈ ks_tbl) (C : ks_ok E l0 D tys R0 cc nL own) (hd : decode cc pc = .ok (.ldc i, 2)) (k : ks_w E D nL ws lo cs ss (pc + 2) (.int (nI a) :: st)) : ks_w E D nL ws lo cs ss pc st := by
  obtain ⟨p, l, e, R, s, m, args, below, meth, c, Q, A⟩ := E
  obtain ⟨-, -, hx, hb, hml, hown, hts, hK, hA, hlocks⟩ := C
  intro H locs ls hP hD hS hl
  refine lv_ldc hx hb hown (hts _ hc) hd ?_
  exact k H locs ls hP hD hS hl
theorem ks_ldc2 {i : Nat} {x : Int64} (hc : Jvm.Cond.constantLong own i x ∈ ks_tbl) (C : ks_ok E l0 D tys R0 cc nL own) (hd : decode cc pc = .ok (.ldc2_w i, 3)) (k : ks_w E D nL ws lo cs ss (pc + 3) (.long x :: st)) : ks_w E D nL ws lo cs ss pc st := by
  obtain ⟨p, l, e, R, s, m, args, below, meth, c, Q, A⟩ := E
  obtain ⟨-, -, hx, hb, hml, hown, hts, hK, hA, hlocks⟩ := C
  intro H locs ls hP hD hS hl
  refine lv_ldc2 hx hb hown (hts _ hc) hd ?_
  exact k H locs ls hP hD hS hl
theorem ks_iadd {a b : Nat} (C : ks_ok E l0 D tys R0 cc nL own) (hd : decode cc pc = .ok (.iadd, 1)) (k : ks_w E D nL ws lo cs ss (pc + 1) (.int (nI (a + b)) :: st)) : ks_w E D nL ws lo cs ss pc (.int (nI b) :: .int (nI a) :: st) := by
  obtain ⟨p, l, e, R, s, m, args, below, meth, c, Q, A⟩ := E
  obtain ⟨-, -, hx, hb, hml, hown, hts, hK, hA, hlocks⟩ := C
  intro H locs ls hP hD hS hl
  refine lv_iadd hx hb hd ?_
  rw [nI_add]
  exact k H locs ls hP hD hS hl
theorem ks_imul {a b : Nat} (C : ks_ok E l0 D tys R0 cc nL own) (hd : decode cc pc = .ok (.imul, 1)) (k : ks_w E D nL ws lo cs ss (pc + 1) (.int (nI (a * b)) :: st)) : ks_w E D nL ws lo cs ss pc (.int (nI b) :: .int (nI a) :: st) := by
  obtain ⟨p, l, e, R, s, m, args, below, meth, c, Q, A⟩ := E
  obtain ⟨-, -, hx, hb, hml, hown, hts, hK, hA, hlocks⟩ := C
  intro H locs ls hP hD hS hl
  refine lv_imul hx hb hd ?_
  rw [pk_mul]
  exact k H locs ls hP hD hS hl
theorem ks_isub {a b : Nat} (h : b ≤ a) (C : ks_ok E l0 D tys R0 cc nL own) (hd : decode cc pc = .ok (.isub, 1)) (k : ks_w E D nL ws lo cs ss (pc + 1) (.int (nI (a - b)) :: st)) : ks_w E D nL ws lo cs ss pc (.int (nI b) :: .int (nI a) :: st) := by
  obtain ⟨p, l, e, R, s, m, args, below, meth, c, Q, A⟩ := E
  obtain ⟨-, -, hx, hb, hml, hown, hts, hK, hA, hlocks⟩ := C
  intro H locs ls hP hD hS hl
  refine lv_isub hx hb hd ?_
  rw [pk_sub h]
  exact k H locs ls hP hD hS hl
theorem ks_idiv {a b : Nat} (ha : a < 2 ^ 31) (h0 : 0 < b) (hb2 : b < 2 ^ 31) (C : ks_ok E l0 D tys R0 cc nL own) (hd : decode cc pc = .ok (.idiv, 1)) (k : ks_w E D nL ws lo cs ss (pc + 1) (.int (nI (a / b)) :: st)) : ks_w E D nL ws lo cs ss pc (.int (nI b) :: .int (nI a) :: st) := by
  obtain ⟨p, l, e, R, s, m, args, below, meth, c, Q, A⟩ := E
  obtain ⟨-, -, hx, hb, hml, hown, hts, hK, hA, hlocks⟩ := C
  intro H locs ls hP hD hS hl
  refine lv_idiv hx hb hd (nI_ne0 h0 hb2) ?_
  rw [pk_div ha h0 hb2]
  exact k H locs ls hP hD hS hl
theorem ks_iaddI {x y : Int32} (C : ks_ok E l0 D tys R0 cc nL own) (hd : decode cc pc = .ok (.iadd, 1)) (k : ks_w E D nL ws lo cs ss (pc + 1) (.int (x + y) :: st)) : ks_w E D nL ws lo cs ss pc (.int y :: .int x :: st) := by
  obtain ⟨p, l, e, R, s, m, args, below, meth, c, Q, A⟩ := E
  obtain ⟨-, -, hx, hb, hml, hown, hts, hK, hA, hlocks⟩ := C
  intro H locs ls hP hD hS hl
  refine lv_iadd hx hb hd ?_
  exact k H locs ls hP hD hS hl
theorem ks_isubI {x y : Int32} (C : ks_ok E l0 D tys R0 cc nL own) (hd : decode cc pc = .ok (.isub, 1)) (k : ks_w E D nL ws lo cs ss (pc + 1) (.int (x - y) :: st)) : ks_w E D nL ws lo cs ss pc (.int y :: .int x :: st) := by
  obtain ⟨p, l, e, R, s, m, args, below, meth, c, Q, A⟩ := E
  obtain ⟨-, -, hx, hb, hml, hown, hts, hK, hA, hlocks⟩ := C
  intro H locs ls hP hD hS hl
  refine lv_isub hx hb hd ?_
  exact k H locs ls hP hD hS hl
theorem ks_imulI {x y : Int32} (C : ks_ok E l0 D tys R0 cc nL own) (hd : decode cc pc = .ok (.imul, 1)) (k : ks_w E D nL ws lo cs ss (pc + 1) (.int (x * y) :: st)) : ks_w E D nL ws lo cs ss pc (.int y :: .int x :: st) := by
  obtain ⟨p, l, e, R, s, m, args, below, meth, c, Q, A⟩ := E
  obtain ⟨-, -, hx, hb, hml, hown, hts, hK, hA, hlocks⟩ := C
  intro H locs ls hP hD hS hl
  refine lv_imul hx hb hd ?_
  exact k H locs ls hP hD hS hl
theorem ks_iandI {x y : Int32} (C : ks_ok E l0 D tys R0 cc nL own) (hd : decode cc pc = .ok (.iand, 1)) (k : ks_w E D nL ws lo cs ss (pc + 1) (.int (x &&& y) :: st)) : ks_w E D nL ws lo cs ss pc (.int y :: .int x :: st) := by
  obtain ⟨p, l, e, R, s, m, args, below, meth, c, Q, A⟩ := E
  obtain ⟨-, -, hx, hb, hml, hown, hts, hK, hA, hlocks⟩ := C
  intro H locs ls hP hD hS hl
  refine lv_iand hx hb hd ?_
  exact k H locs ls hP hD hS hl
theorem ks_iorI {x y : Int32} (C : ks_ok E l0 D tys R0 cc nL own) (hd : decode cc pc = .ok (.ior, 1)) (k : ks_w E D nL ws lo cs ss (pc + 1) (.int (x ||| y) :: st)) : ks_w E D nL ws lo cs ss pc (.int y :: .int x :: st) := by
  obtain ⟨p, l, e, R, s, m, args, below, meth, c, Q, A⟩ := E
  obtain ⟨-, -, hx, hb, hml, hown, hts, hK, hA, hlocks⟩ := C
  intro H locs ls hP hD hS hl
  refine lv_ior hx hb hd ?_
  exact k H locs ls hP hD hS hl
theorem ks_ishlI {x y : Int32} (C : ks_ok E l0 D tys R0 cc nL own) (hd : decode cc pc = .ok (.ishl, 1)) (k : ks_w E D nL ws lo cs ss (pc + 1) (.int (x <<< (y &&& 31)) :: st)) : ks_w E D nL ws lo cs ss pc (.int y :: .int x :: st) := by
  obtain ⟨p, l, e, R, s, m, args, below, meth, c, Q, A⟩ := E
  obtain ⟨-, -, hx, hb, hml, hown, hts, hK, hA, hlocks⟩ := C
  intro H locs ls hP hD hS hl
  refine lv_ishl hx hb hd ?_
  exact k H locs ls hP hD hS hl
theorem ks_ishrI {x y : Int32} (C : ks_ok E l0 D tys R0 cc nL own) (hd : decode cc pc = .ok (.ishr, 1)) (k : ks_w E D nL ws lo cs ss (pc + 1) (.int (x >>> (y &&& 31)) :: st)) : ks_w E D nL ws lo cs ss pc (.int y :: .int x :: st) := by
  obtain ⟨p, l, e, R, s, m, args, below, meth, c, Q, A⟩ := E
  obtain ⟨-, -, hx, hb, hml, hown, hts, hK, hA, hlocks⟩ := C
  intro H locs ls hP hD hS hl
  refine lv_ishr hx hb hd ?_
  exact k H locs ls hP hD hS hl
theorem ks_ineg {x : Int32} (C : ks_ok E l0 D tys R0 cc nL own) (hd : decode cc pc = .ok (.ineg, 1)) (k : ks_w E D nL ws lo cs ss (pc + 1) (.int (-x) :: st)) : ks_w E D nL ws lo cs ss pc (.int x :: st) := by
  obtain ⟨p, l, e, R, s, m, args, below, meth, c, Q, A⟩ := E
  obtain ⟨-, -, hx, hb, hml, hown, hts, hK, hA, hlocks⟩ := C
  intro H locs ls hP hD hS hl
  refine lv_ineg hx hb hd ?_
  exact k H locs ls hP hD hS hl
theorem ks_i2b {x : Int32} (C : ks_ok E l0 D tys R0 cc nL own) (hd : decode cc pc = .ok (.i2b, 1)) (k : ks_w E D nL ws lo cs ss (pc + 1) (.int x.toInt8.toInt32 :: st)) : ks_w E D nL ws lo cs ss pc (.int x :: st) := by
  obtain ⟨p, l, e, R, s, m, args, below, meth, c, Q, A⟩ := E
  obtain ⟨-, -, hx, hb, hml, hown, hts, hK, hA, hlocks⟩ := C
  intro H locs ls hP hD hS hl
  refine lv_i2b hx hb hd rfl ?_
  exact k H locs ls hP hD hS hl
theorem ks_i2l {x : Int32} (C : ks_ok E l0 D tys R0 cc nL own) (hd : decode cc pc = .ok (.i2l, 1)) (k : ks_w E D nL ws lo cs ss (pc + 1) (.long x.toInt64 :: st)) : ks_w E D nL ws lo cs ss pc (.int x :: st) := by
  obtain ⟨p, l, e, R, s, m, args, below, meth, c, Q, A⟩ := E
  obtain ⟨-, -, hx, hb, hml, hown, hts, hK, hA, hlocks⟩ := C
  intro H locs ls hP hD hS hl
  refine lv_i2l hx hb hd rfl ?_
  exact k H locs ls hP hD hS hl
theorem ks_l2i {x : Int64} (C : ks_ok E l0 D tys R0 cc nL own) (hd : decode cc pc = .ok (.l2i, 1)) (k : ks_w E D nL ws lo cs ss (pc + 1) (.int x.toInt32 :: st)) : ks_w E D nL ws lo cs ss pc (.long x :: st) := by
  obtain ⟨p, l, e, R, s, m, args, below, meth, c, Q, A⟩ := E
  obtain ⟨-, -, hx, hb, hml, hown, hts, hK, hA, hlocks⟩ := C
  intro H locs ls hP hD hS hl
  refine lv_l2i hx hb hd rfl ?_
  exact k H locs ls hP hD hS hl
theorem ks_lshr {x : Int64} {y : Int32} (C : ks_ok E l0 D tys R0 cc nL own) (hd : decode cc pc = .ok (.lshr, 1)) (k : ks_w E D nL ws lo cs ss (pc + 1) (.long (x >>> (y.toInt64 &&& 63)) :: st)) : ks_w E D nL ws lo cs ss pc (.int y :: .long x :: st) := by
  obtain ⟨p, l, e, R, s, m, args, below, meth, c, Q, A⟩ := E
  obtain ⟨-, -, hx, hb, hml, hown, hts, hK, hA, hlocks⟩ := C
  intro H locs ls hP hD hS hl
  refine lv_lshr hx hb hd rfl ?_
  exact k H locs ls hP hD hS hl
theorem ks_lshl {x : Int64} {y : Int32} (C : ks_ok E l0 D tys R0 cc nL own) (hd : decode cc pc = .ok (.lshl, 1)) (k : ks_w E D nL ws lo cs ss (pc + 1) (.long (x <<< (y.toInt64 &&& 63)) :: st)) : ks_w E D nL ws lo cs ss pc (.int y :: .long x :: st) := by
  obtain ⟨p, l, e, R, s, m, args, below, meth, c, Q, A⟩ := E
  obtain ⟨-, -, hx, hb, hml, hown, hts, hK, hA, hlocks⟩ := C
  intro H locs ls hP hD hS hl
  refine lv_lshl hx hb hd rfl ?_
  exact k H locs ls hP hD hS hl
theorem ks_lor {x y : Int64} (C : ks_ok E l0 D tys R0 cc nL own) (hd : decode cc pc = .ok (.lor, 1)) (k : ks_w E D nL ws lo cs ss (pc + 1) (.long (x ||| y) :: st)) : ks_w E D nL ws lo cs ss pc (.long y :: .long x :: st) := by
  obtain ⟨p, l, e, R, s, m, args, below, meth, c, Q, A⟩ := E
  obtain ⟨-, -, hx, hb, hml, hown, hts, hK, hA, hlocks⟩ := C
  intro H locs ls hP hD hS hl
  refine lv_lor hx hb hd ?_
  exact k H locs ls hP hD hS hl
theorem ks_land {x y : Int64} (C : ks_ok E l0 D tys R0 cc nL own) (hd : decode cc pc = .ok (.land, 1)) (k : ks_w E D nL ws lo cs ss (pc + 1) (.long (x &&& y) :: st)) : ks_w E D nL ws lo cs ss pc (.long y :: .long x :: st) := by
  obtain ⟨p, l, e, R, s, m, args, below, meth, c, Q, A⟩ := E
  obtain ⟨-, -, hx, hb, hml, hown, hts, hK, hA, hlocks⟩ := C
  intro H locs ls hP hD hS hl
  refine lv_land hx hb hd ?_
  exact k H locs ls hP hD hS hl
theorem ks_lxor {x y : Int64} (C : ks_ok E l0 D tys R0 cc nL own) (hd : decode cc pc = .ok (.lxor, 1)) (k : ks_w E D nL ws lo cs ss (pc + 1) (.long (x ^^^ y) :: st)) : ks_w E D nL ws lo cs ss pc (.long y :: .long x :: st) := by
  obtain ⟨p, l, e, R, s, m, args, below, meth, c, Q, A⟩ := E
  obtain ⟨-, -, hx, hb, hml, hown, hts, hK, hA, hlocks⟩ := C
  intro H locs ls hP hD hS hl
  refine lv_lxor hx hb hd ?_
  exact k H locs ls hP hD hS hl
theorem ks_dup {v : Value} (hv : v.category = 1) (C : ks_ok E l0 D tys R0 cc nL own) (hd : decode cc pc = .ok (.dup, 1)) (k : ks_w E D nL ws lo cs ss (pc + 1) (v :: v :: st)) : ks_w E D nL ws lo cs ss pc (v :: st) := by
  obtain ⟨p, l, e, R, s, m, args, below, meth, c, Q, A⟩ := E
  obtain ⟨-, -, hx, hb, hml, hown, hts, hK, hA, hlocks⟩ := C
  intro H locs ls hP hD hS hl
  refine lv_dup hx hb hd hv ?_
  exact k H locs ls hP hD hS hl
theorem ks_pop {v : Value} (hv : v.category = 1) (C : ks_ok E l0 D tys R0 cc nL own) (hd : decode cc pc = .ok (.pop, 1)) (k : ks_w E D nL ws lo cs ss (pc + 1) st) : ks_w E D nL ws lo cs ss pc (v :: st) := by
  obtain ⟨p, l, e, R, s, m, args, below, meth, c, Q, A⟩ := E
  obtain ⟨-, -, hx, hb, hml, hown, hts, hK, hA, hlocks⟩ := C
  intro H locs ls hP hD hS hl
  refine lv_pop hx hb hd hv ?_
  exact k H locs ls hP hD hS hl
theorem ks_dup2 {v u : Value} (hv : v.category = 1) (hu : u.category = 1) (C : ks_ok E l0 D tys R0 cc nL own) (hd : decode cc pc = .ok (.dup2, 1)) (k : ks_w E D nL ws lo cs ss (pc + 1) (v :: u :: v :: u :: st)) : ks_w E D nL ws lo cs ss pc (v :: u :: st) := by
  obtain ⟨p, l, e, R, s, m, args, below, meth, c, Q, A⟩ := E
  obtain ⟨-, -, hx, hb, hml, hown, hts, hK, hA, hlocks⟩ := C
  intro H locs ls hP hD hS hl
  refine lv_dup2_11 hx hb hd hv hu ?_
  exact k H locs ls hP hD hS hl
theorem ks_dup_x1 {v u : Value} (hv : v.category = 1) (hu : u.category = 1) (C : ks_ok E l0 D tys R0 cc nL own) (hd : decode cc pc = .ok (.dup_x1, 1)) (k : ks_w E D nL ws lo cs ss (pc + 1) (v :: u :: v :: st)) : ks_w E D nL ws lo cs ss pc (v :: u :: st) := by
  obtain ⟨p, l, e, R, s, m, args, below, meth, c, Q, A⟩ := E
  obtain ⟨-, -, hx, hb, hml, hown, hts, hK, hA, hlocks⟩ := C
  intro H locs ls hP hD hS hl
  refine lv_dup_x1 hx hb hd hv hu ?_
  exact k H locs ls hP hD hS hl
theorem ks_goto {off : Int} {tgt : Nat} (C : ks_ok E l0 D tys R0 cc nL own) (ht : (pc : Int) + off = (tgt : Int)) (hd : decode cc pc = .ok (.goto off, 3)) (k : ks_w E D nL ws lo cs ss tgt st) : ks_w E D nL ws lo cs ss pc st := by
  obtain ⟨p, l, e, R, s, m, args, below, meth, c, Q, A⟩ := E
  obtain ⟨-, -, hx, hb, hml, hown, hts, hK, hA, hlocks⟩ := C
  intro H locs ls hP hD hS hl
  exact lv_goto hx hb hd ht (k H locs ls hP hD hS hl)
theorem ks_icmp_eq {a b : Nat} {off : Int} {tgt : Nat} (C : ks_ok E l0 D tys R0 cc nL own) (ha : a < 2 ^ 31) (hb2 : b < 2 ^ 31) (ht : (pc : Int) + off = (tgt : Int)) (hd : decode cc pc = .ok (.if_icmp .eq off, 3)) (kt : a = b → ks_w E D nL ws lo cs ss tgt st) (kf : ¬ (a = b) → ks_w E D nL ws lo cs ss (pc + 3) st) : ks_w E D nL ws lo cs ss pc (.int (nI b) :: .int (nI a) :: st) := by
  obtain ⟨p, l, e, R, s, m, args, below, meth, c, Q, A⟩ := E
  obtain ⟨-, -, hx, hb, hml, hown, hts, hK, hA, hlocks⟩ := C
  intro H locs ls hP hD hS hl
  exact lv_icmp_eq hx hb hd ht (fun h => kt ((nI_eq ha hb2).mp h) H locs ls hP hD hS hl) (fun h => kf (fun z => h ((nI_eq ha hb2).mpr z)) H locs ls hP hD hS hl)
theorem ks_if_eq {a : Nat} {off : Int} {tgt : Nat} (C : ks_ok E l0 D tys R0 cc nL own) (ha : a < 2 ^ 31) (ht : (pc : Int) + off = (tgt : Int)) (hd : decode cc pc = .ok (.ifCond .eq off, 3)) (kt : a = 0 → ks_w E D nL ws lo cs ss tgt st) (kf : ¬ (a = 0) → ks_w E D nL ws lo cs ss (pc + 3) st) : ks_w E D nL ws lo cs ss pc (.int (nI a) :: st) := by
  obtain ⟨p, l, e, R, s, m, args, below, meth, c, Q, A⟩ := E
  obtain ⟨-, -, hx, hb, hml, hown, hts, hK, hA, hlocks⟩ := C
  intro H locs ls hP hD hS hl
  exact lv_if_eq hx hb hd ht (fun h => kt ((nI_eq ha (by decide)).mp h) H locs ls hP hD hS hl) (fun h => kf (fun z => h (by rw [z]; rfl)) H locs ls hP hD hS hl)
theorem ks_icmpI_eq {x y : Int32} {off : Int} {tgt : Nat} (C : ks_ok E l0 D tys R0 cc nL own) (ht : (pc : Int) + off = (tgt : Int)) (hd : decode cc pc = .ok (.if_icmp .eq off, 3)) (kt : x = y → ks_w E D nL ws lo cs ss tgt st) (kf : ¬ x = y → ks_w E D nL ws lo cs ss (pc + 3) st) : ks_w E D nL ws lo cs ss pc (.int y :: .int x :: st) := by
  obtain ⟨p, l, e, R, s, m, args, below, meth, c, Q, A⟩ := E
  obtain ⟨-, -, hx, hb, hml, hown, hts, hK, hA, hlocks⟩ := C
  intro H locs ls hP hD hS hl
  exact lv_icmp_eq hx hb hd ht (fun h => kt h H locs ls hP hD hS hl) (fun h => kf h H locs ls hP hD hS hl)
theorem ks_ifI_eq {x : Int32} {off : Int} {tgt : Nat} (C : ks_ok E l0 D tys R0 cc nL own) (ht : (pc : Int) + off = (tgt : Int)) (hd : decode cc pc = .ok (.ifCond .eq off, 3)) (kt : x = 0 → ks_w E D nL ws lo cs ss tgt st) (kf : ¬ x = 0 → ks_w E D nL ws lo cs ss (pc + 3) st) : ks_w E D nL ws lo cs ss pc (.int x :: st) := by
  obtain ⟨p, l, e, R, s, m, args, below, meth, c, Q, A⟩ := E
  obtain ⟨-, -, hx, hb, hml, hown, hts, hK, hA, hlocks⟩ := C
  intro H locs ls hP hD hS hl
  exact lv_if_eq hx hb hd ht (fun h => kt h H locs ls hP hD hS hl) (fun h => kf h H locs ls hP hD hS hl)
theorem ks_icmp_ne {a b : Nat} {off : Int} {tgt : Nat} (C : ks_ok E l0 D tys R0 cc nL own) (ha : a < 2 ^ 31) (hb2 : b < 2 ^ 31) (ht : (pc : Int) + off = (tgt : Int)) (hd : decode cc pc = .ok (.if_icmp .ne off, 3)) (kt : a ≠ b → ks_w E D nL ws lo cs ss tgt st) (kf : ¬ (a ≠ b) → ks_w E D nL ws lo cs ss (pc + 3) st) : ks_w E D nL ws lo cs ss pc (.int (nI b) :: .int (nI a) :: st) := by
  obtain ⟨p, l, e, R, s, m, args, below, meth, c, Q, A⟩ := E
  obtain ⟨-, -, hx, hb, hml, hown, hts, hK, hA, hlocks⟩ := C
  intro H locs ls hP hD hS hl
  exact lv_icmp_ne hx hb hd ht (fun h => kt (fun z => h (by rw [z])) H locs ls hP hD hS hl) (fun h => kf (fun z => z ((nI_eq ha hb2).mp h)) H locs ls hP hD hS hl)
theorem ks_if_ne {a : Nat} {off : Int} {tgt : Nat} (C : ks_ok E l0 D tys R0 cc nL own) (ha : a < 2 ^ 31) (ht : (pc : Int) + off = (tgt : Int)) (hd : decode cc pc = .ok (.ifCond .ne off, 3)) (kt : a ≠ 0 → ks_w E D nL ws lo cs ss tgt st) (kf : ¬ (a ≠ 0) → ks_w E D nL ws lo cs ss (pc + 3) st) : ks_w E D nL ws lo cs ss pc (.int (nI a) :: st) := by
  obtain ⟨p, l, e, R, s, m, args, below, meth, c, Q, A⟩ := E
  obtain ⟨-, -, hx, hb, hml, hown, hts, hK, hA, hlocks⟩ := C
  intro H locs ls hP hD hS hl
  exact lv_if_ne hx hb hd ht (fun h => kt (fun z => h (by rw [z]; rfl)) H locs ls hP hD hS hl) (fun h => kf (fun z => z ((nI_eq ha (by decide)).mp h)) H locs ls hP hD hS hl)
theorem ks_icmpI_ne {x y : Int32} {off : Int} {tgt : Nat} (C : ks_ok E l0 D tys R0 cc nL own) (ht : (pc : Int) + off = (tgt : Int)) (hd : decode cc pc = .ok (.if_icmp .ne off, 3)) (kt : ¬ x = y → ks_w E D nL ws lo cs ss tgt st) (kf : x = y → ks_w E D nL ws lo cs ss (pc + 3) st) : ks_w E D nL ws lo cs ss pc (.int y :: .int x :: st) := by
  obtain ⟨p, l, e, R, s, m, args, below, meth, c, Q, A⟩ := E
  obtain ⟨-, -, hx, hb, hml, hown, hts, hK, hA, hlocks⟩ := C
  intro H locs ls hP hD hS hl
  exact lv_icmp_ne hx hb hd ht (fun h => kt h H locs ls hP hD hS hl) (fun h => kf h H locs ls hP hD hS hl)
theorem ks_ifI_ne {x : Int32} {off : Int} {tgt : Nat} (C : ks_ok E l0 D tys R0 cc nL own) (ht : (pc : Int) + off = (tgt : Int)) (hd : decode cc pc = .ok (.ifCond .ne off, 3)) (kt : ¬ x = 0 → ks_w E D nL ws lo cs ss tgt st) (kf : x = 0 → ks_w E D nL ws lo cs ss (pc + 3) st) : ks_w E D nL ws lo cs ss pc (.int x :: st) := by
  obtain ⟨p, l, e, R, s, m, args, below, meth, c, Q, A⟩ := E
  obtain ⟨-, -, hx, hb, hml, hown, hts, hK, hA, hlocks⟩ := C
  intro H locs ls hP hD hS hl
  exact lv_if_ne hx hb hd ht (fun h => kt h H locs ls hP hD hS hl) (fun h => kf h H locs ls hP hD hS hl)
theorem ks_icmp_lt {a b : Nat} {off : Int} {tgt : Nat} (C : ks_ok E l0 D tys R0 cc nL own) (ha : a < 2 ^ 31) (hb2 : b < 2 ^ 31) (ht : (pc : Int) + off = (tgt : Int)) (hd : decode cc pc = .ok (.if_icmp .lt off, 3)) (kt : a < b → ks_w E D nL ws lo cs ss tgt st) (kf : ¬ (a < b) → ks_w E D nL ws lo cs ss (pc + 3) st) : ks_w E D nL ws lo cs ss pc (.int (nI b) :: .int (nI a) :: st) := by
  obtain ⟨p, l, e, R, s, m, args, below, meth, c, Q, A⟩ := E
  obtain ⟨-, -, hx, hb, hml, hown, hts, hK, hA, hlocks⟩ := C
  intro H locs ls hP hD hS hl
  exact lv_icmp_lt hx hb hd ht (fun h => kt ((nI_ltI ha hb2).mp h) H locs ls hP hD hS hl) (fun h => kf (fun z => h ((nI_ltI ha hb2).mpr z)) H locs ls hP hD hS hl)
theorem ks_if_lt {a : Nat} {off : Int} {tgt : Nat} (C : ks_ok E l0 D tys R0 cc nL own) (ha : a < 2 ^ 31) (ht : (pc : Int) + off = (tgt : Int)) (hd : decode cc pc = .ok (.ifCond .lt off, 3)) (kt : False → ks_w E D nL ws lo cs ss tgt st) (kf : ¬ (False) → ks_w E D nL ws lo cs ss (pc + 3) st) : ks_w E D nL ws lo cs ss pc (.int (nI a) :: st) := by
  obtain ⟨p, l, e, R, s, m, args, below, meth, c, Q, A⟩ := E
  obtain ⟨-, -, hx, hb, hml, hown, hts, hK, hA, hlocks⟩ := C
  intro H locs ls hP hD hS hl
  exact lv_if_lt hx hb hd ht (fun h => absurd h (nI_pos ha)) (fun h => kf (fun z => z) H locs ls hP hD hS hl)
theorem ks_icmpI_lt {x y : Int32} {off : Int} {tgt : Nat} (C : ks_ok E l0 D tys R0 cc nL own) (ht : (pc : Int) + off = (tgt : Int)) (hd : decode cc pc = .ok (.if_icmp .lt off, 3)) (kt : x < y → ks_w E D nL ws lo cs ss tgt st) (kf : ¬ x < y → ks_w E D nL ws lo cs ss (pc + 3) st) : ks_w E D nL ws lo cs ss pc (.int y :: .int x :: st) := by
  obtain ⟨p, l, e, R, s, m, args, below, meth, c, Q, A⟩ := E
  obtain ⟨-, -, hx, hb, hml, hown, hts, hK, hA, hlocks⟩ := C
  intro H locs ls hP hD hS hl
  exact lv_icmp_lt hx hb hd ht (fun h => kt h H locs ls hP hD hS hl) (fun h => kf h H locs ls hP hD hS hl)
theorem ks_ifI_lt {x : Int32} {off : Int} {tgt : Nat} (C : ks_ok E l0 D tys R0 cc nL own) (ht : (pc : Int) + off = (tgt : Int)) (hd : decode cc pc = .ok (.ifCond .lt off, 3)) (kt : x < 0 → ks_w E D nL ws lo cs ss tgt st) (kf : ¬ x < 0 → ks_w E D nL ws lo cs ss (pc + 3) st) : ks_w E D nL ws lo cs ss pc (.int x :: st) := by
  obtain ⟨p, l, e, R, s, m, args, below, meth, c, Q, A⟩ := E
  obtain ⟨-, -, hx, hb, hml, hown, hts, hK, hA, hlocks⟩ := C
  intro H locs ls hP hD hS hl
  exact lv_if_lt hx hb hd ht (fun h => kt h H locs ls hP hD hS hl) (fun h => kf h H locs ls hP hD hS hl)
theorem ks_icmp_ge {a b : Nat} {off : Int} {tgt : Nat} (C : ks_ok E l0 D tys R0 cc nL own) (ha : a < 2 ^ 31) (hb2 : b < 2 ^ 31) (ht : (pc : Int) + off = (tgt : Int)) (hd : decode cc pc = .ok (.if_icmp .ge off, 3)) (kt : b ≤ a → ks_w E D nL ws lo cs ss tgt st) (kf : ¬ (b ≤ a) → ks_w E D nL ws lo cs ss (pc + 3) st) : ks_w E D nL ws lo cs ss pc (.int (nI b) :: .int (nI a) :: st) := by
  obtain ⟨p, l, e, R, s, m, args, below, meth, c, Q, A⟩ := E
  obtain ⟨-, -, hx, hb, hml, hown, hts, hK, hA, hlocks⟩ := C
  intro H locs ls hP hD hS hl
  exact lv_icmp_ge hx hb hd ht (fun h => kt ((nI_leI hb2 ha).mp h) H locs ls hP hD hS hl) (fun h => kf (fun z => h ((nI_leI hb2 ha).mpr z)) H locs ls hP hD hS hl)
theorem ks_if_ge {a : Nat} {off : Int} {tgt : Nat} (C : ks_ok E l0 D tys R0 cc nL own) (ha : a < 2 ^ 31) (ht : (pc : Int) + off = (tgt : Int)) (hd : decode cc pc = .ok (.ifCond .ge off, 3)) (kt : True → ks_w E D nL ws lo cs ss tgt st) (kf : ¬ (True) → ks_w E D nL ws lo cs ss (pc + 3) st) : ks_w E D nL ws lo cs ss pc (.int (nI a) :: st) := by
  obtain ⟨p, l, e, R, s, m, args, below, meth, c, Q, A⟩ := E
  obtain ⟨-, -, hx, hb, hml, hown, hts, hK, hA, hlocks⟩ := C
  intro H locs ls hP hD hS hl
  exact lv_if_ge hx hb hd ht (fun h => kt trivial H locs ls hP hD hS hl) (fun h => absurd (nI_pos' ha) h)
theorem ks_icmpI_ge {x y : Int32} {off : Int} {tgt : Nat} (C : ks_ok E l0 D tys R0 cc nL own) (ht : (pc : Int) + off = (tgt : Int)) (hd : decode cc pc = .ok (.if_icmp .ge off, 3)) (kt : y ≤ x → ks_w E D nL ws lo cs ss tgt st) (kf : ¬ y ≤ x → ks_w E D nL ws lo cs ss (pc + 3) st) : ks_w E D nL ws lo cs ss pc (.int y :: .int x :: st) := by
  obtain ⟨p, l, e, R, s, m, args, below, meth, c, Q, A⟩ := E
  obtain ⟨-, -, hx, hb, hml, hown, hts, hK, hA, hlocks⟩ := C
  intro H locs ls hP hD hS hl
  exact lv_icmp_ge hx hb hd ht (fun h => kt h H locs ls hP hD hS hl) (fun h => kf h H locs ls hP hD hS hl)
theorem ks_ifI_ge {x : Int32} {off : Int} {tgt : Nat} (C : ks_ok E l0 D tys R0 cc nL own) (ht : (pc : Int) + off = (tgt : Int)) (hd : decode cc pc = .ok (.ifCond .ge off, 3)) (kt : 0 ≤ x → ks_w E D nL ws lo cs ss tgt st) (kf : ¬ 0 ≤ x → ks_w E D nL ws lo cs ss (pc + 3) st) : ks_w E D nL ws lo cs ss pc (.int x :: st) := by
  obtain ⟨p, l, e, R, s, m, args, below, meth, c, Q, A⟩ := E
  obtain ⟨-, -, hx, hb, hml, hown, hts, hK, hA, hlocks⟩ := C
  intro H locs ls hP hD hS hl
  exact lv_if_ge hx hb hd ht (fun h => kt h H locs ls hP hD hS hl) (fun h => kf h H locs ls hP hD hS hl)
theorem ks_icmp_gt {a b : Nat} {off : Int} {tgt : Nat} (C : ks_ok E l0 D tys R0 cc nL own) (ha : a < 2 ^ 31) (hb2 : b < 2 ^ 31) (ht : (pc : Int) + off = (tgt : Int)) (hd : decode cc pc = .ok (.if_icmp .gt off, 3)) (kt : b < a → ks_w E D nL ws lo cs ss tgt st) (kf : ¬ (b < a) → ks_w E D nL ws lo cs ss (pc + 3) st) : ks_w E D nL ws lo cs ss pc (.int (nI b) :: .int (nI a) :: st) := by
  obtain ⟨p, l, e, R, s, m, args, below, meth, c, Q, A⟩ := E
  obtain ⟨-, -, hx, hb, hml, hown, hts, hK, hA, hlocks⟩ := C
  intro H locs ls hP hD hS hl
  exact lv_icmp_gt hx hb hd ht (fun h => kt ((nI_ltI hb2 ha).mp h) H locs ls hP hD hS hl) (fun h => kf (fun z => h ((nI_ltI hb2 ha).mpr z)) H locs ls hP hD hS hl)
theorem ks_if_gt {a : Nat} {off : Int} {tgt : Nat} (C : ks_ok E l0 D tys R0 cc nL own) (ha : a < 2 ^ 31) (ht : (pc : Int) + off = (tgt : Int)) (hd : decode cc pc = .ok (.ifCond .gt off, 3)) (kt : 0 < a → ks_w E D nL ws lo cs ss tgt st) (kf : ¬ (0 < a) → ks_w E D nL ws lo cs ss (pc + 3) st) : ks_w E D nL ws lo cs ss pc (.int (nI a) :: st) := by
  obtain ⟨p, l, e, R, s, m, args, below, meth, c, Q, A⟩ := E
  obtain ⟨-, -, hx, hb, hml, hown, hts, hK, hA, hlocks⟩ := C
  intro H locs ls hP hD hS hl
  exact lv_if_gt hx hb hd ht (fun h => kt ((nI_ltI (a := 0) (by decide) ha).mp h) H locs ls hP hD hS hl) (fun h => kf (fun z => h ((nI_ltI (a := 0) (by decide) ha).mpr z)) H locs ls hP hD hS hl)
theorem ks_icmpI_gt {x y : Int32} {off : Int} {tgt : Nat} (C : ks_ok E l0 D tys R0 cc nL own) (ht : (pc : Int) + off = (tgt : Int)) (hd : decode cc pc = .ok (.if_icmp .gt off, 3)) (kt : y < x → ks_w E D nL ws lo cs ss tgt st) (kf : ¬ y < x → ks_w E D nL ws lo cs ss (pc + 3) st) : ks_w E D nL ws lo cs ss pc (.int y :: .int x :: st) := by
  obtain ⟨p, l, e, R, s, m, args, below, meth, c, Q, A⟩ := E
  obtain ⟨-, -, hx, hb, hml, hown, hts, hK, hA, hlocks⟩ := C
  intro H locs ls hP hD hS hl
  exact lv_icmp_gt hx hb hd ht (fun h => kt h H locs ls hP hD hS hl) (fun h => kf h H locs ls hP hD hS hl)
theorem ks_ifI_gt {x : Int32} {off : Int} {tgt : Nat} (C : ks_ok E l0 D tys R0 cc nL own) (ht : (pc : Int) + off = (tgt : Int)) (hd : decode cc pc = .ok (.ifCond .gt off, 3)) (kt : 0 < x → ks_w E D nL ws lo cs ss tgt st) (kf : ¬ 0 < x → ks_w E D nL ws lo cs ss (pc + 3) st) : ks_w E D nL ws lo cs ss pc (.int x :: st) := by
  obtain ⟨p, l, e, R, s, m, args, below, meth, c, Q, A⟩ := E
  obtain ⟨-, -, hx, hb, hml, hown, hts, hK, hA, hlocks⟩ := C
  intro H locs ls hP hD hS hl
  exact lv_if_gt hx hb hd ht (fun h => kt h H locs ls hP hD hS hl) (fun h => kf h H locs ls hP hD hS hl)
theorem ks_icmp_le {a b : Nat} {off : Int} {tgt : Nat} (C : ks_ok E l0 D tys R0 cc nL own) (ha : a < 2 ^ 31) (hb2 : b < 2 ^ 31) (ht : (pc : Int) + off = (tgt : Int)) (hd : decode cc pc = .ok (.if_icmp .le off, 3)) (kt : a ≤ b → ks_w E D nL ws lo cs ss tgt st) (kf : ¬ (a ≤ b) → ks_w E D nL ws lo cs ss (pc + 3) st) : ks_w E D nL ws lo cs ss pc (.int (nI b) :: .int (nI a) :: st) := by
  obtain ⟨p, l, e, R, s, m, args, below, meth, c, Q, A⟩ := E
  obtain ⟨-, -, hx, hb, hml, hown, hts, hK, hA, hlocks⟩ := C
  intro H locs ls hP hD hS hl
  exact lv_icmp_le hx hb hd ht (fun h => kt ((nI_leI ha hb2).mp h) H locs ls hP hD hS hl) (fun h => kf (fun z => h ((nI_leI ha hb2).mpr z)) H locs ls hP hD hS hl)
theorem ks_if_le {a : Nat} {off : Int} {tgt : Nat} (C : ks_ok E l0 D tys R0 cc nL own) (ha : a < 2 ^ 31) (ht : (pc : Int) + off = (tgt : Int)) (hd : decode cc pc = .ok (.ifCond .le off, 3)) (kt : a = 0 → ks_w E D nL ws lo cs ss tgt st) (kf : ¬ (a = 0) → ks_w E D nL ws lo cs ss (pc + 3) st) : ks_w E D nL ws lo cs ss pc (.int (nI a) :: st) := by
  obtain ⟨p, l, e, R, s, m, args, below, meth, c, Q, A⟩ := E
  obtain ⟨-, -, hx, hb, hml, hown, hts, hK, hA, hlocks⟩ := C
  intro H locs ls hP hD hS hl
  exact lv_if_le hx hb hd ht (fun h => kt (Nat.le_zero.mp ((nI_leI (b := 0) ha (by decide)).mp h)) H locs ls hP hD hS hl) (fun h => kf (fun z => h ((nI_leI (b := 0) ha (by decide)).mpr (Nat.le_of_eq z))) H locs ls hP hD hS hl)
theorem ks_icmpI_le {x y : Int32} {off : Int} {tgt : Nat} (C : ks_ok E l0 D tys R0 cc nL own) (ht : (pc : Int) + off = (tgt : Int)) (hd : decode cc pc = .ok (.if_icmp .le off, 3)) (kt : x ≤ y → ks_w E D nL ws lo cs ss tgt st) (kf : ¬ x ≤ y → ks_w E D nL ws lo cs ss (pc + 3) st) : ks_w E D nL ws lo cs ss pc (.int y :: .int x :: st) := by
  obtain ⟨p, l, e, R, s, m, args, below, meth, c, Q, A⟩ := E
  obtain ⟨-, -, hx, hb, hml, hown, hts, hK, hA, hlocks⟩ := C
  intro H locs ls hP hD hS hl
  exact lv_icmp_le hx hb hd ht (fun h => kt h H locs ls hP hD hS hl) (fun h => kf h H locs ls hP hD hS hl)
theorem ks_ifI_le {x : Int32} {off : Int} {tgt : Nat} (C : ks_ok E l0 D tys R0 cc nL own) (ht : (pc : Int) + off = (tgt : Int)) (hd : decode cc pc = .ok (.ifCond .le off, 3)) (kt : x ≤ 0 → ks_w E D nL ws lo cs ss tgt st) (kf : ¬ x ≤ 0 → ks_w E D nL ws lo cs ss (pc + 3) st) : ks_w E D nL ws lo cs ss pc (.int x :: st) := by
  obtain ⟨p, l, e, R, s, m, args, below, meth, c, Q, A⟩ := E
  obtain ⟨-, -, hx, hb, hml, hown, hts, hK, hA, hlocks⟩ := C
  intro H locs ls hP hD hS hl
  exact lv_if_le hx hb hd ht (fun h => kt h H locs ls hP hD hS hl) (fun h => kf h H locs ls hP hD hS hl)
/-- a truth value as the machine has it -/
def ks_b (t : Bool) : Int32 := if t then 1 else 0
theorem ks_ifB_eq {t : Bool} {off : Int} {tgt : Nat} (C : ks_ok E l0 D tys R0 cc nL own) (ht : (pc : Int) + off = (tgt : Int)) (hd : decode cc pc = .ok (.ifCond .eq off, 3)) (kt : t = false → ks_w E D nL ws lo cs ss tgt st) (kf : t = true → ks_w E D nL ws lo cs ss (pc + 3) st) : ks_w E D nL ws lo cs ss pc (.int (ks_b t) :: st) := by
  obtain ⟨p, l, e, R, s, m, args, below, meth, c, Q, A⟩ := E
  obtain ⟨-, -, hx, hb, hml, hown, hts, hK, hA, hlocks⟩ := C
  intro H locs ls hP hD hS hl
  exact lv_if_eq hx hb hd ht (fun h => kt (by cases t with | false => rfl | true => exact absurd h (by decide)) H locs ls hP hD hS hl) (fun h => kf (by cases t with | true => rfl | false => exact absurd rfl h) H locs ls hP hD hS hl)
theorem ks_ifB_ne {t : Bool} {off : Int} {tgt : Nat} (C : ks_ok E l0 D tys R0 cc nL own) (ht : (pc : Int) + off = (tgt : Int)) (hd : decode cc pc = .ok (.ifCond .ne off, 3)) (kt : t = true → ks_w E D nL ws lo cs ss tgt st) (kf : t = false → ks_w E D nL ws lo cs ss (pc + 3) st) : ks_w E D nL ws lo cs ss pc (.int (ks_b t) :: st) := by
  obtain ⟨p, l, e, R, s, m, args, below, meth, c, Q, A⟩ := E
  obtain ⟨-, -, hx, hb, hml, hown, hts, hK, hA, hlocks⟩ := C
  intro H locs ls hP hD hS hl
  exact lv_if_ne hx hb hd ht (fun h => kt (by cases t with | true => rfl | false => exact absurd rfl h) H locs ls hP hD hS hl) (fun h => kf (by cases t with | false => rfl | true => exact absurd h (by decide)) H locs ls hP hD hS hl)
theorem ks_get {a k idx : Nat} {fs : List Value} {Cn ref : String} {T : u_T} {N : Nat} {v : Value} (C : ks_ok E l0 D tys R0 cc nL own) (q0 ci : Nat) (hin : ∀ w ∈ u_ws Cn T N, w ∈ ks_tbl) (hc : vwCl[ci]? = some (Cn, T, N)) (hk : k < N) (hlink : Cond.fieldLink own idx ref (T k).2.1 (T k).2.2.1 ∈ ks_tbl) (hsame : (T k).1 = ref) (he : ws[q0]? = some (a, .inr (ci, fs))) (hv : fs[k]? = some v) (hd : decode cc pc = .ok (.getfield idx, 3)) (kk : ks_w E D nL ws lo cs ss (pc + 3) (v :: st)) : ks_w E D nL ws lo cs ss pc (.ref a :: st) := by
  obtain ⟨p, l, e, R, s, m, args, below, meth, c, Q, A⟩ := E
  obtain ⟨-, -, hx, hb, hml, hown, hts, hK, hA, hlocks⟩ := C
  intro H locs ls hP hD hS hl
  exact va_get hx hb hts hin hown hK hP q0 he hc k hk (hts _ hlink) (fun x h => by rw [← hsame]; exact h) hv hd (kk H locs ls hP hD hS hl)
theorem ks_getN {a k idx : Nat} {fs : List Value} {Cn ref host : String} {T : u_T} {N : Nat} {v : Value} (C : ks_ok E l0 D tys R0 cc nL own) (q0 ci : Nat) (hin : ∀ w ∈ u_ws Cn T N, w ∈ ks_tbl) (hc : vwCl[ci]? = some (Cn, T, N)) (hk : k < N) (hlink : Cond.fieldLinkNest own idx ref (T k).2.1 (T k).2.2.1 host ∈ ks_tbl) (hsame : (T k).1 = ref) (he : ws[q0]? = some (a, .inr (ci, fs))) (hv : fs[k]? = some v) (hd : decode cc pc = .ok (.getfield idx, 3)) (kk : ks_w E D nL ws lo cs ss (pc + 3) (v :: st)) : ks_w E D nL ws lo cs ss pc (.ref a :: st) := by
  obtain ⟨p, l, e, R, s, m, args, below, meth, c, Q, A⟩ := E
  obtain ⟨-, -, hx, hb, hml, hown, hts, hK, hA, hlocks⟩ := C
  intro H locs ls hP hD hS hl
  exact va_getN hx hb hts hin hown hK hP q0 he hc k hk (hts _ hlink) (fun x h => by rw [← hsame]; exact h) hv hd (kk H locs ls hP hD hS hl)
theorem ks_put {a k idx : Nat} {fs : List Value} {Cn ref : String} {T : u_T} {N : Nat} {v : Value} {ws' : va_W} (C : ks_ok E l0 D tys R0 cc nL own) (q0 ci : Nat) (t0 : Nat → FieldType) (ht0 : ∀ k, k < N → parseFieldDescriptor (T k).2.2.1 = some (t0 k)) (hnm : ∀ a, a < N → ∀ b, b < N → a ≠ b → (T a).2.1 ≠ (T b).2.1) (hin : ∀ w ∈ u_ws Cn T N, w ∈ ks_tbl) (hc : vwCl[ci]? = some (Cn, T, N)) (hk : k < N) (hlink : Cond.fieldLink own idx ref (T k).2.1 (T k).2.2.1 ∈ ks_tbl) (hsame : (T k).1 = ref) (hfin : (T k).2.2.2 = false) (hn : narrow (t0 k) v = v) (hfit : fits (t0 k) v = true) (he : ws[q0]? = some (a, .inr (ci, fs))) (hl0 : k < fs.length) (hw : ws.set q0 (a, .inr (ci, fs.set k v)) = ws') (hd : decode cc pc = .ok (.putfield idx, 3)) (kk : ks_w E D nL ws' lo cs ss (pc + 3) st) : ks_w E D nL ws lo cs ss pc (v :: .ref a :: st) := by
  obtain ⟨p, l, e, R, s, m, args, below, meth, c, Q, A⟩ := E
  obtain ⟨-, -, hx, hb, hml, hown, hts, hK, hA, hlocks⟩ := C
  intro H locs ls hP hD hS hl
  subst hw
  exact va_put hx hb hts hin t0 ht0 hnm hown hK hP hD hS q0 he hc k hk (hts _ hlink) (fun x h => by rw [← hsame]; exact h) hfin (ht0 k hk) hn hfit hl0 hd (fun H1 locs1 hP hD hS => kk H1 locs1 ls hP hD hS hl)
/-! contents of arrays -/
def ks_by (B : Nat → UInt8) : Nat → Int32 := fun j => sb_b (B j).toNat
def ks_in (P : Nat → Nat) : Nat → Int32 := fun j => nI (P j)
def ks_bo (P : Nat → Bool) : Nat → Int32 := fun j => ks_b (P j)
theorem ks_by_up (B : Nat → UInt8) (i : Nat) (c : UInt8) : upd (ks_by B) i (sb_b c.toNat) = ks_by (va_up B i c) := by
  funext j
  by_cases h : j = i
  · subst h; rw [pk_us]; simp [ks_by, va_up]
  · rw [pk_un h]; simp [ks_by, va_up, h]
theorem ks_in_up (P : Nat → Nat) (i c : Nat) : upd (ks_in P) i (nI c) = ks_in (va_up P i c) := by
  funext j
  by_cases h : j = i
  · subst h; rw [pk_us]; simp [ks_in, va_up]
  · rw [pk_un h]; simp [ks_in, va_up, h]
theorem ks_bo_up (P : Nat → Bool) (i : Nat) (c : Bool) : upd (ks_bo P) i (ks_b c) = ks_bo (va_up P i c) := by
  funext j
  by_cases h : j = i
  · subst h; rw [pk_us]; simp [ks_bo, va_up]
  · rw [pk_un h]; simp [ks_bo, va_up, h]
theorem ks_by_cpy (F G : Nat → UInt8) (a b n : Nat) : va_cpy (ks_by F) (ks_by G) a b n = ks_by (va_cpy F G a b n) := by
  funext j
  by_cases h : b ≤ j ∧ j < b + n
  · simp [va_cpy, ks_by, h]
  · simp [va_cpy, ks_by, h]
theorem ks_by255 (B : Nat → UInt8) (i : Nat) : ks_by B i &&& 255 = nI (B i).toNat := (sb_byte _ (B i).toNat_lt).1
/-- bytes[i] & 255 -/
theorem ks_bald {a i : Nat} {cA : ClassId} {n : Nat} {B : Nat → UInt8} (C : ks_ok E l0 D tys R0 cc nL own) (q0 t0 : Nat) (ht : tys[t0]? = some (cA, .byte)) (ha : ws[q0]? = some (a, .inl (cA, n, .inl (ks_by B)))) (hi : i < n) (hN : n < 2 ^ 31) (hd : decode cc pc = .ok (.baload, 1)) (hd2 : decode cc (pc + 1) = .ok (.sipush 255, 3)) (hd3 : decode cc (pc + 4) = .ok (.iand, 1)) (k : ks_w E D nL ws lo cs ss (pc + 5) (.int (nI (B i).toNat) :: st)) : ks_w E D nL ws lo cs ss pc (.int (nI i) :: .ref a :: st) := by
  obtain ⟨p, l, e, R, s, m, args, below, meth, c, Q, A⟩ := E
  obtain ⟨-, -, hx, hb, hml, hown, hts, hK, hA, hlocks⟩ := C
  intro H locs ls hP hD hS hl
  refine va_bald hx hb hK hP q0 t0 ha ht (vp_in_nI hi hN) hd ?_
  refine lv_sipush (v := 255) hx hb hd2 (by decide) ?_
  refine lv_iand hx hb hd3 ?_
  rw [nI_clamp (by omega), ks_by255]
  exact k H locs ls hP hD hS hl
/-- a byte as it is -/
theorem ks_bald0 {a i : Nat} {cA : ClassId} {n : Nat} {B : Nat → UInt8} (C : ks_ok E l0 D tys R0 cc nL own) (q0 t0 : Nat) (ht : tys[t0]? = some (cA, .byte)) (ha : ws[q0]? = some (a, .inl (cA, n, .inl (ks_by B)))) (hi : i < n) (hN : n < 2 ^ 31) (hd : decode cc pc = .ok (.baload, 1)) (k : ks_w E D nL ws lo cs ss (pc + 1) (.int (sb_b (B i).toNat) :: st)) : ks_w E D nL ws lo cs ss pc (.int (nI i) :: .ref a :: st) := by
  obtain ⟨p, l, e, R, s, m, args, below, meth, c, Q, A⟩ := E
  obtain ⟨-, -, hx, hb, hml, hown, hts, hK, hA, hlocks⟩ := C
  intro H locs ls hP hD hS hl
  refine va_bald hx hb hK hP q0 t0 ha ht (vp_in_nI hi hN) hd ?_
  rw [nI_clamp (by omega)]
  exact k H locs ls hP hD hS hl
theorem ks_iald {a i : Nat} {cA : ClassId} {n : Nat} {B : Nat → Nat} (C : ks_ok E l0 D tys R0 cc nL own) (q0 t0 : Nat) (ht : tys[t0]? = some (cA, .int)) (ha : ws[q0]? = some (a, .inl (cA, n, .inl (ks_in B)))) (hi : i < n) (hN : n < 2 ^ 31) (hd : decode cc pc = .ok (.iaload, 1)) (k : ks_w E D nL ws lo cs ss (pc + 1) (.int (nI (B i)) :: st)) : ks_w E D nL ws lo cs ss pc (.int (nI i) :: .ref a :: st) := by
  obtain ⟨p, l, e, R, s, m, args, below, meth, c, Q, A⟩ := E
  obtain ⟨-, -, hx, hb, hml, hown, hts, hK, hA, hlocks⟩ := C
  intro H locs ls hP hD hS hl
  refine va_iald hx hb hK hP q0 t0 ha ht (vp_in_nI hi hN) hd ?_
  rw [nI_clamp (by omega)]
  exact k H locs ls hP hD hS hl
theorem ks_zald {a i : Nat} {cA : ClassId} {n : Nat} {B : Nat → Bool} (C : ks_ok E l0 D tys R0 cc nL own) (q0 t0 : Nat) (ht : tys[t0]? = some (cA, .boolean)) (ha : ws[q0]? = some (a, .inl (cA, n, .inl (ks_bo B)))) (hi : i < n) (hN : n < 2 ^ 31) (hd : decode cc pc = .ok (.baload, 1)) (k : ks_w E D nL ws lo cs ss (pc + 1) (.int (ks_b (B i)) :: st)) : ks_w E D nL ws lo cs ss pc (.int (nI i) :: .ref a :: st) := by
  obtain ⟨p, l, e, R, s, m, args, below, meth, c, Q, A⟩ := E
  obtain ⟨-, -, hx, hb, hml, hown, hts, hK, hA, hlocks⟩ := C
  intro H locs ls hP hD hS hl
  refine va_zald hx hb hK hP q0 t0 ha ht (vp_in_nI hi hN) hd ?_
  rw [nI_clamp (by omega)]
  exact k H locs ls hP hD hS hl
theorem ks_bast {a i : Nat} {cA : ClassId} {n : Nat} {B : Nat → UInt8} {x : Int32} {c : UInt8} {ws' : va_W} (C : ks_ok E l0 D tys R0 cc nL own) (q0 t0 : Nat) (ht : tys[t0]? = some (cA, .byte)) (ha : ws[q0]? = some (a, .inl (cA, n, .inl (ks_by B)))) (hi : i < n) (hN : n < 2 ^ 31) (hx8 : vp_nar .byte x = sb_b c.toNat) (hw : ws.set q0 (a, .inl (cA, n, .inl (ks_by (va_up B i c)))) = ws') (hd : decode cc pc = .ok (.bastore, 1)) (k : ks_w E D nL ws' lo cs ss (pc + 1) st) : ks_w E D nL ws lo cs ss pc (.int x :: .int (nI i) :: .ref a :: st) := by
  obtain ⟨p, l, e, R, s, m, args, below, meth, c, Q, A⟩ := E
  obtain ⟨-, -, hx, hb, hml, hown, hts, hK, hA, hlocks⟩ := C
  intro H locs ls hP hD hS hl
  subst hw
  refine va_bast hx hb hK hP hD hS q0 t0 ha ht (vp_in_nI hi hN) hd (fun H1 locs1 hP hD hS => ?_)
  rw [nI_clamp (by omega), hx8, ks_by_up] at hP hD
  exact k H1 locs1 ls hP hD hS hl
theorem ks_iast {a i : Nat} {cA : ClassId} {n : Nat} {B : Nat → Nat} {c : Nat} {ws' : va_W} (C : ks_ok E l0 D tys R0 cc nL own) (q0 t0 : Nat) (ht : tys[t0]? = some (cA, .int)) (ha : ws[q0]? = some (a, .inl (cA, n, .inl (ks_in B)))) (hi : i < n) (hN : n < 2 ^ 31) (hw : ws.set q0 (a, .inl (cA, n, .inl (ks_in (va_up B i c)))) = ws') (hd : decode cc pc = .ok (.iastore, 1)) (k : ks_w E D nL ws' lo cs ss (pc + 1) st) : ks_w E D nL ws lo cs ss pc (.int (nI c) :: .int (nI i) :: .ref a :: st) := by
  obtain ⟨p, l, e, R, s, m, args, below, meth, c, Q, A⟩ := E
  obtain ⟨-, -, hx, hb, hml, hown, hts, hK, hA, hlocks⟩ := C
  intro H locs ls hP hD hS hl
  subst hw
  refine va_iast hx hb hK hP hD hS q0 t0 ha ht (vp_in_nI hi hN) hd (fun H1 locs1 hP hD hS => ?_)
  rw [nI_clamp (by omega), ks_in_up] at hP hD
  exact k H1 locs1 ls hP hD hS hl
theorem ks_zast {a i : Nat} {cA : ClassId} {n : Nat} {B : Nat → Bool} {x : Int32} {c : Bool} {ws' : va_W} (C : ks_ok E l0 D tys R0 cc nL own) (q0 t0 : Nat) (ht : tys[t0]? = some (cA, .boolean)) (ha : ws[q0]? = some (a, .inl (cA, n, .inl (ks_bo B)))) (hi : i < n) (hN : n < 2 ^ 31) (hx8 : vp_nar .boolean x = ks_b c) (hw : ws.set q0 (a, .inl (cA, n, .inl (ks_bo (va_up B i c)))) = ws') (hd : decode cc pc = .ok (.bastore, 1)) (k : ks_w E D nL ws' lo cs ss (pc + 1) st) : ks_w E D nL ws lo cs ss pc (.int x :: .int (nI i) :: .ref a :: st) := by
  obtain ⟨p, l, e, R, s, m, args, below, meth, c, Q, A⟩ := E
  obtain ⟨-, -, hx, hb, hml, hown, hts, hK, hA, hlocks⟩ := C
  intro H locs ls hP hD hS hl
  subst hw
  refine va_zast hx hb hK hP hD hS q0 t0 ha ht (vp_in_nI hi hN) hd (fun H1 locs1 hP hD hS => ?_)
  rw [nI_clamp (by omega), hx8, ks_bo_up] at hP hD
  exact k H1 locs1 ls hP hD hS hl
theorem ks_alen {a : Nat} {cA : ClassId} {n : Nat} {x} {ty : FieldType} (C : ks_ok E l0 D tys R0 cc nL own) (q0 t0 : Nat) (ht : tys[t0]? = some (cA, ty)) (ha : ws[q0]? = some (a, .inl (cA, n, x))) (hd : decode cc pc = .ok (.arraylength, 1)) (k : ks_w E D nL ws lo cs ss (pc + 1) (.int (nI n) :: st)) : ks_w E D nL ws lo cs ss pc (.ref a :: st) := by
  obtain ⟨p, l, e, R, s, m, args, below, meth, c, Q, A⟩ := E
  obtain ⟨-, -, hx, hb, hml, hown, hts, hK, hA, hlocks⟩ := C
  intro H locs ls hP hD hS hl
  exact va_alen hx hb hK hP q0 t0 ha ht (v := nI n) rfl hd (k H locs ls hP hD hS hl)
theorem ks_nI_min {a b : Nat} (ha : a < 2 ^ 31) (hb : b < 2 ^ 31) : (if nI b < nI a then nI b else nI a) = nI (min a b) := by
  by_cases h : b < a
  · rw [if_pos (nI_lt h ha), Nat.min_eq_right (Nat.le_of_lt h)]
  · rw [if_neg (nI_nlt (Nat.le_of_not_lt h) hb), Nat.min_eq_left (Nat.le_of_not_lt h)]
theorem ks_nI_max {a b : Nat} (ha : a < 2 ^ 31) (hb : b < 2 ^ 31) : (if nI a < nI b then nI b else nI a) = nI (max a b) := by
  by_cases h : a < b
  · rw [if_pos (nI_lt h hb), Nat.max_eq_right (Nat.le_of_lt h)]
  · rw [if_neg (nI_nlt (Nat.le_of_not_lt h) ha), Nat.max_eq_left (Nat.le_of_not_lt h)]
theorem ks_min {a b idx : Nat} (C : ks_ok E l0 D tys R0 cc nL own) (hlink : Cond.methodLink own idx Lib.Math.min.name ∈ ks_tbl) (hwm : Cond.static Lib.Math.min.name ∈ ks_tbl ∧ Cond.initialized "java/lang/Math" ∈ ks_tbl ∧ Cond.code Lib.Math.min.name Lib.Math.min.code 2 (some .int) ∈ ks_tbl) (ha : a < 2 ^ 31) (hb2 : b < 2 ^ 31) (hfr : 1 ≤ R0.frames) (hlo : (st.map fun v => v.category).sum + 13 ≤ R0.locals) (hc : cs ≤ R0.cells) (hs : ss ≤ R0.slots) (hd : decode cc pc = .ok (.invokestatic idx, 3)) (k : ks_w E D nL ws lo cs ss (pc + 3) (.int (nI (min a b)) :: st)) : ks_w E D nL ws lo cs ss pc (.int (nI b) :: .int (nI a) :: st) := by
  obtain ⟨p, l, e, R, s, m, args, below, meth, c, Q, A⟩ := E
  obtain ⟨-, rfl, hx, hb, hml, hown, hts, hK, hA, hlocks⟩ := C
  intro H locs ls hP hD hS hl
  refine va_mmin hx hb (hml.trans hl.1.symm) hown (hts _ hlink) (hts _ hwm.1) (hts _ hwm.2.1) (hts _ hwm.2.2) hfr hlo hc hs hd ?_
  rw [ks_nI_min ha hb2]
  exact k H locs ls hP hD hS hl
theorem ks_max {a b idx : Nat} (C : ks_ok E l0 D tys R0 cc nL own) (hlink : Cond.methodLink own idx Lib.Math.max.name ∈ ks_tbl) (hwm : Cond.static Lib.Math.max.name ∈ ks_tbl ∧ Cond.initialized "java/lang/Math" ∈ ks_tbl ∧ Cond.code Lib.Math.max.name Lib.Math.max.code 2 (some .int) ∈ ks_tbl) (ha : a < 2 ^ 31) (hb2 : b < 2 ^ 31) (hfr : 1 ≤ R0.frames) (hlo : (st.map fun v => v.category).sum + 13 ≤ R0.locals) (hc : cs ≤ R0.cells) (hs : ss ≤ R0.slots) (hd : decode cc pc = .ok (.invokestatic idx, 3)) (k : ks_w E D nL ws lo cs ss (pc + 3) (.int (nI (max a b)) :: st)) : ks_w E D nL ws lo cs ss pc (.int (nI b) :: .int (nI a) :: st) := by
  obtain ⟨p, l, e, R, s, m, args, below, meth, c, Q, A⟩ := E
  obtain ⟨-, rfl, hx, hb, hml, hown, hts, hK, hA, hlocks⟩ := C
  intro H locs ls hP hD hS hl
  refine va_mmax hx hb (hml.trans hl.1.symm) hown (hts _ hlink) (hts _ hwm.1) (hts _ hwm.2.1) (hts _ hwm.2.2) hfr hlo hc hs hd ?_
  rw [ks_nI_max ha hb2]
  exact k H locs ls hP hD hS hl
/-- System.arraycopy between two arrays of bytes -/
theorem ks_copy {a a0 sp dp n idx : Nat} {c0 : ClassId} {n0 n1 : Nat} {F G : Nat → UInt8} {ws' : va_W} (C : ks_ok E l0 D tys R0 cc nL own) (q0 q1 t0 : Nat) (ht : tys[t0]? = some (c0, .byte)) (hlink : Cond.methodLink own idx arraycopyName ∈ ks_tbl) (hwc : Cond.native arraycopyName ∈ ks_tbl ∧ Cond.static arraycopyName ∈ ks_tbl ∧ Cond.initialized "java/lang/System" ∈ ks_tbl) (ha0 : ws[q0]? = some (a0, .inl (c0, n0, .inl (ks_by F)))) (ha1 : ws[q1]? = some (a, .inl (c0, n1, .inl (ks_by G)))) (h4 : sp + n ≤ n0) (h5 : dp + n ≤ n1) (hn0 : n0 < 2 ^ 31) (hn1 : n1 < 2 ^ 31) (hfr : 1 ≤ R0.frames) (hlo : (st.map fun v => v.category).sum + (nativeFrameWords "java/lang/System" "arraycopy" 5 + 11) ≤ R0.locals) (hw : ws.set q1 (a, .inl (c0, n1, .inl (ks_by (va_cpy F G sp dp n)))) = ws') (hd : decode cc pc = .ok (.invokestatic idx, 3)) (k : ks_w E D nL ws' lo cs ss (pc + 3) st) : ks_w E D nL ws lo cs ss pc (.int (nI n) :: .int (nI dp) :: .ref a :: .int (nI sp) :: .ref a0 :: st) := by
  obtain ⟨p, l, e, R, s, m, args, below, meth, c, Q, A⟩ := E
  obtain ⟨-, rfl, hx, hb, hml, hown, hts, hK, hA, hlocks⟩ := C
  intro H locs ls hP hD hS hl
  subst hw
  have e1 : (nI sp).toNatClampNeg = sp := nI_clamp (by omega)
  have e2 : (nI dp).toNatClampNeg = dp := nI_clamp (by omega)
  have e3 : (nI n).toNatClampNeg = n := nI_clamp (by omega)
  refine va_copyi hx hb (hml.trans hl.1.symm) hown (hts _ hlink) (hts _ hwc.1) (hts _ hwc.2.1) (hts _ hwc.2.2) hK hP hD hS q0 q1 t0 t0 ha0 ha1 ht ht rfl (nI_pos (by omega)) (nI_pos (by omega)) (nI_pos (by omega)) (by rw [e1, e3]; exact h4) (by rw [e2, e3]; exact h5) (fun i _ => sb_fitB _) hfr hlo hd (fun H1 locs1 hP hD hS => ?_)
  rw [e1, e2, e3, ks_by_cpy] at hP hD
  exact k H1 locs1 ls hP hD hS hl
/-! contracts: the answer and the world behind the method, by 'post' -/
def ks_Q (D : va_G) (tys : List (ClassId × FieldType)) (post : Option Value → va_W → Prop) (A : Nat → Prop) : Array Value → State → Outcome → State → Prop := fun _ st o t => ∃ (v : Option Value) (w1 : va_W), post v w1 ∧ o = .returned v ∧ (va_P D vwCl w1 t.heap ∧ va_K D vwCl tys t ∧ va_D A w1) ∧ va_F A st t
def ks_M (l : Launch) (D : va_G) (tys : List (ClassId × FieldType)) (rm : Room) (y : MethodName) (cc : ByteArray) (nL : Nat) (ret : Option FieldType) (args : List Value) (wc : va_W) (post : Option Value → va_W → Prop) : Prop :=
  ∀ sz : Nat, Met l y (.code y cc nL ret :: ks_tbl) rm (va_Pc args (fun U => U.heap.size = sz ∧ va_P D vwCl wc U.heap ∧ va_K D vwCl tys U ∧ va_D (fun _ => True) wc)) (ks_Q D tys post (va_A wc sz)) rm.cells rm.slots (va_A wc sz)
/-- one answer, one world -/
def ks_f (v : Option Value) (w1 : va_W) : Option Value → va_W → Prop := fun v' w' => v' = v ∧ w' = w1
def ks_z (E : ks_E) (D : va_G) (tys : List (ClassId × FieldType)) (rm : Room) (ret : Option FieldType) (wc : va_W) (post : Option Value → va_W → Prop) : Prop :=
  match E with
  | (_, _, _, _, s, _, args, below, meth, _, Q, A) => meth.sig.returnType = ret ∧ A = va_A wc s.heap.size ∧ Q = MQ below (ks_Q D tys post (va_A wc s.heap.size)) args s rm.cells rm.slots (va_A wc s.heap.size)
def ks_ar : List Value → List (Option Value)
  | [] => []
  | v :: vs => if v.category = 2 then some v :: none :: ks_ar vs else some v :: ks_ar vs
theorem ks_ar_mem : ∀ (vs : List Value) (k i : Nat) (v : Value), (ks_ar vs)[i]? = some (some v) → (k + i, v) ∈ lv_args k vs
  | [], k, i, v, h => by simp [ks_ar] at h
  | u :: vs, k, i, v, h => by
    unfold ks_ar at h
    unfold lv_args
    by_cases hc : u.category = 2
    · rw [if_pos hc] at h ⊢
      match i, h with
      | 0, h =>
        have : u = v := by simpa using h
        subst this
        exact List.mem_cons_self
      | 1, h => simp at h
      | i + 2, h =>
        have h2 := ks_ar_mem vs (k + 2) i v (by simpa using h)
        rw [show k + (i + 2) = k + 2 + i by omega]
        exact List.mem_cons_of_mem _ h2
    · rw [if_neg hc] at h ⊢
      match i, h with
      | 0, h =>
        have : u = v := by simpa using h
        subst this
        exact List.mem_cons_self
      | i + 1, h =>
        have h2 := ks_ar_mem vs (k + 1) i v (by simpa using h)
        rw [show k + (i + 1) = k + 1 + i by omega]
        exact List.mem_cons_of_mem _ h2
theorem ks_lo_args {vs : List Value} {n : Nat} {ls : Array Slot} {nL : Nat} (h : lv_has ls nL (lv_args 0 vs)) : lv_has ls nL (ks_lv (ks_ar vs ++ List.replicate n none)) := by
  refine ks_lv_sub h (fun q hq => ?_)
  have h1 := ks_lv_mem.mp hq
  rw [List.getElem?_append] at h1
  split at h1
  · have h2 := ks_ar_mem vs 0 q.1 q.2 h1
    rw [Nat.zero_add] at h2
    exact h2
  · rw [List.getElem?_replicate] at h1
    split at h1 <;> cases h1
theorem ks_M.of {l : Launch} {rm : Room} {y : MethodName} {ret : Option FieldType} {vs : List Value} {wc : va_W} {post : Option Value → va_W → Prop} (n : Nat) (hy : plainName y.cls = true) (hlen : (lg_sl vs).length ≤ nL) (body : ∀ E : ks_E, ks_ok E l D tys rm cc nL y.cls → ks_z E D tys rm ret wc post → ks_w E D nL wc (ks_ar vs ++ List.replicate n none) 0 0 0 []) : ks_M l D tys rm y cc nL ret vs wc post := by
  intro sz
  refine Met.ofW (cc := cc) (maxL := nL) (ret := ret) hy rfl ?_
  intro p e s m args below meth c s₁ B hml hv
  obtain ⟨rfl, hsz, hP, hK, hD0⟩ := hv
  subst hsz
  have hts := atoms_spec (ws := .code y cc nL ret :: ks_tbl) B.pre
  have hown : s.vm.findClass y.cls = some m.cls := findClass_of_methodNamed B.named
  have hl := lv_entry vs (n := nL) hlen
  have h := body (p, l, e, rm, s, m, vs.toArray, below, meth, c, MQ below (ks_Q D tys post (va_A wc s.heap.size)) vs.toArray s rm.cells rm.slots (va_A wc s.heap.size), va_A wc s.heap.size)
    ⟨rfl, rfl, B.exec, B.bytes, hml, hown, fun w hw => hts w (List.mem_cons_of_mem _ hw), hK, fun q h => Or.inr h, B.notSynchronized⟩ ⟨B.returns, rfl, rfl⟩
  rw [lg_entry_eq]
  exact h s.heap [] _ hP (hD0.self (sz := s.heap.size)) va_S.rf (ks_lo_args hl)
/-! ends -/
theorem ks_iret {rm : Room} {ret : Option FieldType} {wc : va_W} {post : Option Value → va_W → Prop} {x : Int32} {ty : FieldType} (C : ks_ok E l0 D tys R0 cc nL own) (Z : ks_z E D tys rm ret wc post) (hret : ret = some ty) (hn : narrow ty (.int x) = .int x) (hd : decode cc pc = .ok (.ireturn, 1)) (hc : cs = rm.cells) (hs : ss = rm.slots) (hp : post (some (.int x)) ws) : ks_w E D nL ws lo cs ss pc [.int x] := by
  obtain ⟨p, l, e, R, s, m, args, below, meth, c, Q, A⟩ := E
  obtain ⟨-, -, hx, hb, hml, hown, hts, hK, hA, hlocks⟩ := C
  intro H locs ls hP hD hS hl
  obtain ⟨hr, rfl, rfl⟩ := Z
  subst hc
  subst hs
  exact W.zret hx hb (hr.trans hret) hn (fun t ht hW => ⟨_, _, hp, rfl, ⟨by rw [ht]; exact hP, va_K.moved hW.alike hK, hD⟩, hS.F ht⟩) hS.2.2 hd
theorem ks_lret {rm : Room} {ret : Option FieldType} {wc : va_W} {post : Option Value → va_W → Prop} {x : Int64} (C : ks_ok E l0 D tys R0 cc nL own) (Z : ks_z E D tys rm ret wc post) (hret : ret = some .long) (hd : decode cc pc = .ok (.lreturn, 1)) (hc : cs = rm.cells) (hs : ss = rm.slots) (hp : post (some (.long x)) ws) : ks_w E D nL ws lo cs ss pc [.long x] := by
  obtain ⟨p, l, e, R, s, m, args, below, meth, c, Q, A⟩ := E
  obtain ⟨-, -, hx, hb, hml, hown, hts, hK, hA, hlocks⟩ := C
  intro H locs ls hP hD hS hl
  obtain ⟨hr, rfl, rfl⟩ := Z
  subst hc
  subst hs
  exact W.lret hx hb (hr.trans hret) (fun t ht hW => ⟨_, _, hp, rfl, ⟨by rw [ht]; exact hP, va_K.moved hW.alike hK, hD⟩, hS.F ht⟩) hS.2.2 hd
theorem ks_vret {rm : Room} {ret : Option FieldType} {wc : va_W} {post : Option Value → va_W → Prop} (C : ks_ok E l0 D tys R0 cc nL own) (Z : ks_z E D tys rm ret wc post) (hret : ret = none) (hd : decode cc pc = .ok (.return_, 1)) (hc : cs = rm.cells) (hs : ss = rm.slots) (hp : post none ws) : ks_w E D nL ws lo cs ss pc [] := by
  obtain ⟨p, l, e, R, s, m, args, below, meth, c, Q, A⟩ := E
  obtain ⟨-, -, hx, hb, hml, hown, hts, hK, hA, hlocks⟩ := C
  intro H locs ls hP hD hS hl
  obtain ⟨hr, rfl, rfl⟩ := Z
  subst hc
  subst hs
  exact W.vret hx hb (hr.trans hret) (fun t ht hW => ⟨_, _, hp, rfl, ⟨by rw [ht]; exact hP, va_K.moved hW.alike hK, hD⟩, hS.F ht⟩) hS.2.2 hd
/-! calls -/
theorem ks_fm {α : Type} {f : Nat → Option α} : ∀ {is : List Nat} {l : List α}, is.map f = l.map some → is.filterMap f = l
  | [], [], _ => rfl
  | [], _ :: _, h => by cases h
  | _ :: _, [], h => by cases h
  | i :: is, x :: l, h => by
    simp only [List.map_cons, List.cons.injEq] at h
    rw [List.filterMap_cons, h.1, ks_fm h.2]
/-- the words of a method that is called -/
def ks_y (y : MethodName) (bytes : ByteArray) (maxL : Nat) (ret : Option FieldType) (n : Nat) : Prop := Cond.code y bytes maxL ret ∈ ks_tbl ∧ Cond.instanceMethod y ∈ ks_tbl ∧ Cond.initialized y.cls ∈ ks_tbl ∧ y.cls ≠ "java/lang/invoke/MethodHandle" ∧ y.cls ≠ "java/lang/invoke/VarHandle" ∧ (parseMethodDescriptor y.desc).map (fun d => d.parameters.length) = some n
theorem ks_good {y : MethodName} {bytes : ByteArray} {maxL : Nat} {ret : Option FieldType} (h : Cond.code y bytes maxL ret ∈ ks_tbl) : GoodIn ks_tbl (Cond.code y bytes maxL ret :: ks_tbl) := by
  intro w hw
  rcases List.mem_cons.mp hw with e | e
  · subst e; exact ⟨h, ks_tblGood _ h⟩
  · exact ⟨e, ks_tblGood _ e⟩
theorem ks_run {l : Launch} {p : Program} {e : Env} {R : Room} {s : State} {m : MethodId} {args : Array Value} {below : List Frame} {meth : Method} {c : Code} {Q : State → Prop} {A : Nat → Prop} {mc ms : Nat} {rest : List Value} {post : Option Value → va_W → Prop} {wc wr : va_W} {a : Array Value} {H : Heap} {locs : List Loc} {ls : Array Slot} (isC isR : List Nat)
    (hC : isC.map (fun i => ws[i]?) = wc.map some) (hR : isR.map (fun i => ws[i]?) = wr.map some) (hnR : va_nd isR = true) (hdis : ∀ i ∈ isR, i ∉ isC) (hA : ∀ q, s.heap.size ≤ q → A q)
    (hP : va_P D vwCl ws H) (hD : va_D A ws) (hS : va_S A s.heap H locs) (hl : lv_has ls nL (ks_lv lo)) (hr : va_Run p l e R s m args below meth c H locs cs ss mc ms (F0 m pc ls st) rest (ks_Q D tys post (va_A wc H.size) a) (va_A wc H.size))
    (k : ∀ (v : Option Value) (w1 : va_W), post v w1 → ks_w (p, l, e, R, s, m, args, below, meth, c, Q, A) D nL (wr ++ w1) lo (cs + mc) (ss + ms) (pc + 3) (v.toList ++ rest)) : W p l e R s m args below meth c H locs cs ss Q (F0 m pc ls st) := by
  have hFc := va_free (wc := wc) hD hS hA isC hC
  intro T hT X
  obtain ⟨v, st₀, t, T', L, h0, X', hL, e1, e2, ⟨v', w1, hp, ho, ⟨hP1, hK1, hD1⟩, hz, hk⟩, stp⟩ := hr T hT X
  cases ho
  rw [h0] at hz hk
  rw [← e1] at hz hk hP1
  obtain ⟨hPn, hDn⟩ := va_join (wr := wr) (w1 := w1) hP hD isC isR hC hR hnR hdis (fun q h1 h2 => hk q h1 h2) hFc hP1 hD1
  obtain ⟨t2, a1, b1⟩ := k v w1 hp T'.heap (locs ++ L) ls hPn hDn
    ⟨Nat.le_trans hS.1 hz, fun q h1 h2 => by rw [hk q (Nat.lt_of_lt_of_le h1 hS.1) (fun z => h2 (hFc q z))]; exact hS.2.1 q h1 h2, fun q hq => by
      rcases List.mem_append.mp hq with h | h
      · exact hS.2.2 q h
      · exact hFc _ (hL q h)⟩ hl T' rfl X'
  exact ⟨t2, stp t2 a1, b1⟩
theorem ks_pre {wc : va_W} {vs : List Value} {s : State} {H : Heap} {A : Nat → Prop} (hK : va_K D vwCl tys s) (hPc : va_P D vwCl wc H) (hDc : va_D A wc) : FrameBlind (va_Pc vs (fun U => U.heap.size = H.size ∧ va_P D vwCl wc U.heap ∧ va_K D vwCl tys U ∧ va_D (fun _ => True) wc)) ∧ ∀ U : State, U.heap = H → s.WarmedH U.vm → va_Pc vs (fun U => U.heap.size = H.size ∧ va_P D vwCl wc U.heap ∧ va_K D vwCl tys U ∧ va_D (fun _ => True) wc) vs.toArray U :=
  ⟨fun a U g mk q => by obtain ⟨q0, q1, qP, qK, qD⟩ := q; exact ⟨q0, q1, qP, va_K.moved (u := U) (U := U.calling g mk a) (Vm.Alike.refl U.vm) qK, qD⟩, fun U hU hW => ⟨rfl, by rw [hU], by rw [hU]; exact hPc, va_K.moved hW.alike hK, hDc.weaken (fun _ _ _ _ => trivial)⟩⟩
theorem ks_callVr {y : MethodName} {bytes : ByteArray} {maxL : Nat} {ret : Option FieldType} {rm : Room} {n idx b : Nat} {As rest : List Value} {wc wr : va_W} {post : Option Value → va_W → Prop} {q0 ci : Nat} {fs : List Value} {qc : vw_C} (C : ks_ok E l0 D tys R0 cc nL own) (M : ks_M l0 D tys rm y bytes maxL ret (.ref b :: As) wc post) (Y : ks_y y bytes maxL ret n) (hsel : Cond.selects y.cls y y ∈ ks_tbl) (hlink : Cond.methodLink own idx y ∈ ks_tbl) (hci : vwCl[ci]? = some qc) (hqc : qc.1 = y.cls) (hrecv : wc[q0]? = some (b, .inr (ci, fs))) (isC isR : List Nat) (hC : isC.map (fun i => ws[i]?) = wc.map some) (hR : isR.map (fun i => ws[i]?) = wr.map some) (hnC : va_nd isC = true) (hnR : va_nd isR = true) (hdis : ∀ i ∈ isR, i ∉ isC) (hroom : rm.frames + 1 ≤ R0.frames ∧ 8 + (maxL + 11) + rm.locals ≤ R0.locals) (hcell : cs + rm.cells ≤ R0.cells ∧ ss + rm.slots ≤ R0.slots) (hst : st = As.reverse ++ .ref b :: rest) (hAs : As.length = n) (hcat : (rest.map fun v => v.category).sum ≤ 8) (hd : decode cc pc = .ok (.invokevirtual idx, 3)) (k : ∀ (v : Option Value) (w1 : va_W), post v w1 → ks_w E D nL (wr ++ w1) lo (cs + rm.cells) (ss + rm.slots) (pc + 3) (v.toList ++ rest)) : ks_w E D nL ws lo cs ss pc st := by
  obtain ⟨p, l, e, R, s, m, args, below, meth, c, Q, A⟩ := E
  obtain ⟨rfl, rfl, hx, hb, hml, hown, hts, hK, hA, hlocks⟩ := C
  intro H locs ls hP hD hS hl
  subst hst
  have hPc := hP.sub (ws' := wc) isC (ks_fm hC)
  have hDc := hD.sub (ws' := wc) isC hnC hC
  have hpre := ks_pre (vs := .ref b :: As) hK hPc hDc
  have cw : CallW R s args own y.cls idx y bytes maxL ret (.code y bytes maxL ret :: ks_tbl) rm rm.cells rm.slots n := ⟨callB_of n hts (ks_good Y.1) rfl rfl rfl (hts _ Y.2.2.1) (hts _ hlink) Y.2.2.2 hroom, hts _ Y.2.1, hts _ hsel⟩
  refine ks_run isC isR hC hR hnR hdis hA hP hD hS hl (va_runV (As := As) (rest := rest) ⟨hx, hb, hml, hown, hts⟩ (M H.size) cw ⟨hpre.1, by rw [← hqc]; exact va_recv hK hPc hci hrecv, hpre.2⟩ rfl hAs hl.1 rfl (lv_room hcat) hd hcell) k
theorem ks_callNr {y : MethodName} {bytes : ByteArray} {maxL : Nat} {ret : Option FieldType} {rm : Room} {n idx b : Nat} {As rest : List Value} {wc wr : va_W} {post : Option Value → va_W → Prop} {q0 ci : Nat} {fs : List Value} {qc : vw_C} {host : String} (C : ks_ok E l0 D tys R0 cc nL own) (M : ks_M l0 D tys rm y bytes maxL ret (.ref b :: As) wc post) (Y : ks_y y bytes maxL ret n) (hsel : Cond.selects y.cls y y ∈ ks_tbl) (hlink : Cond.methodLinkNest own idx y host ∈ ks_tbl) (hci : vwCl[ci]? = some qc) (hqc : qc.1 = y.cls) (hrecv : wc[q0]? = some (b, .inr (ci, fs))) (isC isR : List Nat) (hC : isC.map (fun i => ws[i]?) = wc.map some) (hR : isR.map (fun i => ws[i]?) = wr.map some) (hnC : va_nd isC = true) (hnR : va_nd isR = true) (hdis : ∀ i ∈ isR, i ∉ isC) (hroom : rm.frames + 1 ≤ R0.frames ∧ 8 + (maxL + 11) + rm.locals ≤ R0.locals) (hcell : cs + rm.cells ≤ R0.cells ∧ ss + rm.slots ≤ R0.slots) (hst : st = As.reverse ++ .ref b :: rest) (hAs : As.length = n) (hcat : (rest.map fun v => v.category).sum ≤ 8) (hd : decode cc pc = .ok (.invokevirtual idx, 3)) (k : ∀ (v : Option Value) (w1 : va_W), post v w1 → ks_w E D nL (wr ++ w1) lo (cs + rm.cells) (ss + rm.slots) (pc + 3) (v.toList ++ rest)) : ks_w E D nL ws lo cs ss pc st := by
  obtain ⟨p, l, e, R, s, m, args, below, meth, c, Q, A⟩ := E
  obtain ⟨rfl, rfl, hx, hb, hml, hown, hts, hK, hA, hlocks⟩ := C
  intro H locs ls hP hD hS hl
  subst hst
  have hPc := hP.sub (ws' := wc) isC (ks_fm hC)
  have hDc := hD.sub (ws' := wc) isC hnC hC
  have hpre := ks_pre (vs := .ref b :: As) hK hPc hDc
  have cw : va_CN R s args own idx y host bytes maxL ret (.code y bytes maxL ret :: ks_tbl) rm rm.cells rm.slots n := va_cnB n hts (ks_good Y.1) rfl rfl rfl (va_Nw.of (by first | rfl | simp [Cond.onTables]) (hts _ hlink)) (hts _ Y.2.2.1) Y.2.2.2 hroom
  refine ks_run isC isR hC hR hnR hdis hA hP hD hS hl (va_runVN (As := As) (rest := rest) ⟨hx, hb, hml, hown, hts⟩ (M H.size) ⟨cw, hts _ Y.2.1, hts _ hsel⟩ ⟨hpre.1, by rw [← hqc]; exact va_recv hK hPc hci hrecv, hpre.2⟩ rfl hAs hl.1 rfl (lv_room hcat) hd hcell) k
theorem ks_callVv {y : MethodName} {bytes : ByteArray} {maxL : Nat} {ret : Option FieldType} {rm : Room} {n idx b : Nat} {As rest : List Value} {wc wr : va_W} {w1 ws' : va_W} {q0 ci : Nat} {fs : List Value} {qc : vw_C} (C : ks_ok E l0 D tys R0 cc nL own) (M : ks_M l0 D tys rm y bytes maxL ret (.ref b :: As) wc (ks_f none w1)) (Y : ks_y y bytes maxL ret n) (hsel : Cond.selects y.cls y y ∈ ks_tbl) (hlink : Cond.methodLink own idx y ∈ ks_tbl) (hci : vwCl[ci]? = some qc) (hqc : qc.1 = y.cls) (hrecv : wc[q0]? = some (b, .inr (ci, fs))) (isC isR : List Nat) (hC : isC.map (fun i => ws[i]?) = wc.map some) (hR : isR.map (fun i => ws[i]?) = wr.map some) (hnC : va_nd isC = true) (hnR : va_nd isR = true) (hdis : ∀ i ∈ isR, i ∉ isC) (is3 : List Nat) (hn3 : va_nd is3 = true) (hw3 : is3.map (fun i => (wr ++ w1)[i]?) = ws'.map some) (hc0 : rm.cells = 0) (hs0 : rm.slots = 0) (hroom : rm.frames + 1 ≤ R0.frames ∧ 8 + (maxL + 11) + rm.locals ≤ R0.locals) (hcell : cs + rm.cells ≤ R0.cells ∧ ss + rm.slots ≤ R0.slots) (hst : st = As.reverse ++ .ref b :: rest) (hAs : As.length = n) (hcat : (rest.map fun v => v.category).sum ≤ 8) (hd : decode cc pc = .ok (.invokevirtual idx, 3)) (k : ks_w E D nL ws' lo cs ss (pc + 3) rest) : ks_w E D nL ws lo cs ss pc st := by
  refine ks_callVr C M Y hsel hlink hci hqc hrecv isC isR hC hR hnC hnR hdis hroom hcell hst hAs hcat hd (fun v w1' h => ?_)
  obtain ⟨rfl, rfl⟩ := h
  rw [hc0, hs0]
  obtain ⟨p, l, e, R, s, m, args, below, meth, c, Q, A⟩ := E
  intro H locs ls hP hD hS hl
  exact k H locs ls (hP.sub is3 (ks_fm hw3)) (hD.sub is3 hn3 hw3) hS hl
theorem ks_callVx {y : MethodName} {bytes : ByteArray} {maxL : Nat} {ret : Option FieldType} {rm : Room} {n idx b : Nat} {As rest : List Value} {wc wr : va_W} {w1 ws' : va_W} {x : Value} {q0 ci : Nat} {fs : List Value} {qc : vw_C} (C : ks_ok E l0 D tys R0 cc nL own) (M : ks_M l0 D tys rm y bytes maxL ret (.ref b :: As) wc (ks_f (some x) w1)) (Y : ks_y y bytes maxL ret n) (hsel : Cond.selects y.cls y y ∈ ks_tbl) (hlink : Cond.methodLink own idx y ∈ ks_tbl) (hci : vwCl[ci]? = some qc) (hqc : qc.1 = y.cls) (hrecv : wc[q0]? = some (b, .inr (ci, fs))) (isC isR : List Nat) (hC : isC.map (fun i => ws[i]?) = wc.map some) (hR : isR.map (fun i => ws[i]?) = wr.map some) (hnC : va_nd isC = true) (hnR : va_nd isR = true) (hdis : ∀ i ∈ isR, i ∉ isC) (is3 : List Nat) (hn3 : va_nd is3 = true) (hw3 : is3.map (fun i => (wr ++ w1)[i]?) = ws'.map some) (hc0 : rm.cells = 0) (hs0 : rm.slots = 0) (hroom : rm.frames + 1 ≤ R0.frames ∧ 8 + (maxL + 11) + rm.locals ≤ R0.locals) (hcell : cs + rm.cells ≤ R0.cells ∧ ss + rm.slots ≤ R0.slots) (hst : st = As.reverse ++ .ref b :: rest) (hAs : As.length = n) (hcat : (rest.map fun v => v.category).sum ≤ 8) (hd : decode cc pc = .ok (.invokevirtual idx, 3)) (k : ks_w E D nL ws' lo cs ss (pc + 3) (x :: rest)) : ks_w E D nL ws lo cs ss pc st := by
  refine ks_callVr C M Y hsel hlink hci hqc hrecv isC isR hC hR hnC hnR hdis hroom hcell hst hAs hcat hd (fun v w1' h => ?_)
  obtain ⟨rfl, rfl⟩ := h
  rw [hc0, hs0]
  obtain ⟨p, l, e, R, s, m, args, below, meth, c, Q, A⟩ := E
  intro H locs ls hP hD hS hl
  exact k H locs ls (hP.sub is3 (ks_fm hw3)) (hD.sub is3 hn3 hw3) hS hl
theorem ks_callNv {y : MethodName} {bytes : ByteArray} {maxL : Nat} {ret : Option FieldType} {rm : Room} {n idx b : Nat} {As rest : List Value} {wc wr : va_W} {w1 ws' : va_W} {host : String} {q0 ci : Nat} {fs : List Value} {qc : vw_C} (C : ks_ok E l0 D tys R0 cc nL own) (M : ks_M l0 D tys rm y bytes maxL ret (.ref b :: As) wc (ks_f none w1)) (Y : ks_y y bytes maxL ret n) (hsel : Cond.selects y.cls y y ∈ ks_tbl) (hlink : Cond.methodLinkNest own idx y host ∈ ks_tbl) (hci : vwCl[ci]? = some qc) (hqc : qc.1 = y.cls) (hrecv : wc[q0]? = some (b, .inr (ci, fs))) (isC isR : List Nat) (hC : isC.map (fun i => ws[i]?) = wc.map some) (hR : isR.map (fun i => ws[i]?) = wr.map some) (hnC : va_nd isC = true) (hnR : va_nd isR = true) (hdis : ∀ i ∈ isR, i ∉ isC) (is3 : List Nat) (hn3 : va_nd is3 = true) (hw3 : is3.map (fun i => (wr ++ w1)[i]?) = ws'.map some) (hc0 : rm.cells = 0) (hs0 : rm.slots = 0) (hroom : rm.frames + 1 ≤ R0.frames ∧ 8 + (maxL + 11) + rm.locals ≤ R0.locals) (hcell : cs + rm.cells ≤ R0.cells ∧ ss + rm.slots ≤ R0.slots) (hst : st = As.reverse ++ .ref b :: rest) (hAs : As.length = n) (hcat : (rest.map fun v => v.category).sum ≤ 8) (hd : decode cc pc = .ok (.invokevirtual idx, 3)) (k : ks_w E D nL ws' lo cs ss (pc + 3) rest) : ks_w E D nL ws lo cs ss pc st := by
  refine ks_callNr C M Y hsel hlink hci hqc hrecv isC isR hC hR hnC hnR hdis hroom hcell hst hAs hcat hd (fun v w1' h => ?_)
  obtain ⟨rfl, rfl⟩ := h
  rw [hc0, hs0]
  obtain ⟨p, l, e, R, s, m, args, below, meth, c, Q, A⟩ := E
  intro H locs ls hP hD hS hl
  exact k H locs ls (hP.sub is3 (ks_fm hw3)) (hD.sub is3 hn3 hw3) hS hl
theorem ks_callNx {y : MethodName} {bytes : ByteArray} {maxL : Nat} {ret : Option FieldType} {rm : Room} {n idx b : Nat} {As rest : List Value} {wc wr : va_W} {w1 ws' : va_W} {host : String} {x : Value} {q0 ci : Nat} {fs : List Value} {qc : vw_C} (C : ks_ok E l0 D tys R0 cc nL own) (M : ks_M l0 D tys rm y bytes maxL ret (.ref b :: As) wc (ks_f (some x) w1)) (Y : ks_y y bytes maxL ret n) (hsel : Cond.selects y.cls y y ∈ ks_tbl) (hlink : Cond.methodLinkNest own idx y host ∈ ks_tbl) (hci : vwCl[ci]? = some qc) (hqc : qc.1 = y.cls) (hrecv : wc[q0]? = some (b, .inr (ci, fs))) (isC isR : List Nat) (hC : isC.map (fun i => ws[i]?) = wc.map some) (hR : isR.map (fun i => ws[i]?) = wr.map some) (hnC : va_nd isC = true) (hnR : va_nd isR = true) (hdis : ∀ i ∈ isR, i ∉ isC) (is3 : List Nat) (hn3 : va_nd is3 = true) (hw3 : is3.map (fun i => (wr ++ w1)[i]?) = ws'.map some) (hc0 : rm.cells = 0) (hs0 : rm.slots = 0) (hroom : rm.frames + 1 ≤ R0.frames ∧ 8 + (maxL + 11) + rm.locals ≤ R0.locals) (hcell : cs + rm.cells ≤ R0.cells ∧ ss + rm.slots ≤ R0.slots) (hst : st = As.reverse ++ .ref b :: rest) (hAs : As.length = n) (hcat : (rest.map fun v => v.category).sum ≤ 8) (hd : decode cc pc = .ok (.invokevirtual idx, 3)) (k : ks_w E D nL ws' lo cs ss (pc + 3) (x :: rest)) : ks_w E D nL ws lo cs ss pc st := by
  refine ks_callNr C M Y hsel hlink hci hqc hrecv isC isR hC hR hnC hnR hdis hroom hcell hst hAs hcat hd (fun v w1' h => ?_)
  obtain ⟨rfl, rfl⟩ := h
  rw [hc0, hs0]
  obtain ⟨p, l, e, R, s, m, args, below, meth, c, Q, A⟩ := E
  intro H locs ls hP hD hS hl
  exact k H locs ls (hP.sub is3 (ks_fm hw3)) (hD.sub is3 hn3 hw3) hS hl
end KSR
end

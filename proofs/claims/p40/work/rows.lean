section
-- ===== PART A: goes FIRST, ahead of the names: the tables' words, and 'selects' of the private methods out of them =====
/-- a private method of a class that the tables say can be made, by its rows of tables_1 -/
def lw_okq (q : MethodName × Nat) : Prop := (q.1.cls ≠ "java/lang/invoke/MethodHandle" ∧ q.1.cls ≠ "java/lang/invoke/VarHandle") ∧ Cond.instantiable q.1.cls q.2 ∈ tables_1 ∧ Cond.privateMethod q.1 ∈ tables_1 ∧ Cond.instanceMethod q.1 ∈ tables_1
theorem lw_p0 : lw_okq (⟨"RootDuel$Reader", "beginText", "()V"⟩, 13) := ⟨⟨by decide +kernel, by decide +kernel⟩, List.mem_of_getElem? (i := 120) (by decide +kernel), List.mem_of_getElem? (i := 221) (by decide +kernel), List.mem_of_getElem? (i := 222) (by decide +kernel)⟩
theorem lw_p1 : lw_okq (⟨"RootDuel$Reader", "nextToken", "()V"⟩, 13) := ⟨⟨by decide +kernel, by decide +kernel⟩, List.mem_of_getElem? (i := 120) (by decide +kernel), List.mem_of_getElem? (i := 225) (by decide +kernel), List.mem_of_getElem? (i := 226) (by decide +kernel)⟩
theorem lw_p2 : lw_okq (⟨"RootDuel$Reader", "kindAt", "(I)I"⟩, 13) := ⟨⟨by decide +kernel, by decide +kernel⟩, List.mem_of_getElem? (i := 120) (by decide +kernel), List.mem_of_getElem? (i := 229) (by decide +kernel), List.mem_of_getElem? (i := 230) (by decide +kernel)⟩
theorem lw_p3 : lw_okq (⟨"RootDuel$Reader", "readStatement", "(LRootDuel$Contest;)Z"⟩, 13) := ⟨⟨by decide +kernel, by decide +kernel⟩, List.mem_of_getElem? (i := 120) (by decide +kernel), List.mem_of_getElem? (i := 236) (by decide +kernel), List.mem_of_getElem? (i := 237) (by decide +kernel)⟩
theorem lw_p4 : lw_okq (⟨"RootDuel$Reader", "isWord", "(Ljava/lang/String;)Z"⟩, 13) := ⟨⟨by decide +kernel, by decide +kernel⟩, List.mem_of_getElem? (i := 120) (by decide +kernel), List.mem_of_getElem? (i := 241) (by decide +kernel), List.mem_of_getElem? (i := 242) (by decide +kernel)⟩
theorem lw_p5 : lw_okq (⟨"RootDuel$Reader", "readStart", "(LRootDuel$Contest;)Z"⟩, 13) := ⟨⟨by decide +kernel, by decide +kernel⟩, List.mem_of_getElem? (i := 120) (by decide +kernel), List.mem_of_getElem? (i := 293) (by decide +kernel), List.mem_of_getElem? (i := 294) (by decide +kernel)⟩
theorem lw_p6 : lw_okq (⟨"RootDuel$Reader", "readInteger", "(II)Z"⟩, 13) := ⟨⟨by decide +kernel, by decide +kernel⟩, List.mem_of_getElem? (i := 120) (by decide +kernel), List.mem_of_getElem? (i := 297) (by decide +kernel), List.mem_of_getElem? (i := 298) (by decide +kernel)⟩
theorem lw_p7 : lw_okq (⟨"RootDuel$Reader", "fail", "(I)Z"⟩, 13) := ⟨⟨by decide +kernel, by decide +kernel⟩, List.mem_of_getElem? (i := 120) (by decide +kernel), List.mem_of_getElem? (i := 301) (by decide +kernel), List.mem_of_getElem? (i := 302) (by decide +kernel)⟩
theorem lw_p8 : lw_okq (⟨"RootDuel$Reader", "readNumber", "(II)Z"⟩, 13) := ⟨⟨by decide +kernel, by decide +kernel⟩, List.mem_of_getElem? (i := 120) (by decide +kernel), List.mem_of_getElem? (i := 305) (by decide +kernel), List.mem_of_getElem? (i := 306) (by decide +kernel)⟩
theorem lw_p9 : lw_okq (⟨"RootDuel$Reader", "settingOfWord", "()I"⟩, 13) := ⟨⟨by decide +kernel, by decide +kernel⟩, List.mem_of_getElem? (i := 120) (by decide +kernel), List.mem_of_getElem? (i := 309) (by decide +kernel), List.mem_of_getElem? (i := 310) (by decide +kernel)⟩
theorem lw_p10 : lw_okq (⟨"RootDuel$Reader", "readSetting", "(LRootDuel$Contest;I)Z"⟩, 13) := ⟨⟨by decide +kernel, by decide +kernel⟩, List.mem_of_getElem? (i := 120) (by decide +kernel), List.mem_of_getElem? (i := 319) (by decide +kernel), List.mem_of_getElem? (i := 320) (by decide +kernel)⟩
theorem lw_p11 : lw_okq (⟨"RootDuel$Reader", "readSemicolon", "()Z"⟩, 13) := ⟨⟨by decide +kernel, by decide +kernel⟩, List.mem_of_getElem? (i := 120) (by decide +kernel), List.mem_of_getElem? (i := 327) (by decide +kernel), List.mem_of_getElem? (i := 328) (by decide +kernel)⟩
theorem lw_p12 : lw_okq (⟨"RootDuel$Reader", "readCommand", "(I)Z"⟩, 13) := ⟨⟨by decide +kernel, by decide +kernel⟩, List.mem_of_getElem? (i := 120) (by decide +kernel), List.mem_of_getElem? (i := 343) (by decide +kernel), List.mem_of_getElem? (i := 344) (by decide +kernel)⟩
theorem lw_p13 : lw_okq (⟨"RootDuel$Reader", "actOfWord", "()I"⟩, 13) := ⟨⟨by decide +kernel, by decide +kernel⟩, List.mem_of_getElem? (i := 120) (by decide +kernel), List.mem_of_getElem? (i := 347) (by decide +kernel), List.mem_of_getElem? (i := 348) (by decide +kernel)⟩
theorem lw_p14 : lw_okq (⟨"RootDuel$Reader", "keep", "(II)Z"⟩, 13) := ⟨⟨by decide +kernel, by decide +kernel⟩, List.mem_of_getElem? (i := 120) (by decide +kernel), List.mem_of_getElem? (i := 354) (by decide +kernel), List.mem_of_getElem? (i := 355) (by decide +kernel)⟩
theorem lw_p15 : lw_okq (⟨"RootDuel$Reader", "readTerm", "(I)Z"⟩, 13) := ⟨⟨by decide +kernel, by decide +kernel⟩, List.mem_of_getElem? (i := 120) (by decide +kernel), List.mem_of_getElem? (i := 358) (by decide +kernel), List.mem_of_getElem? (i := 359) (by decide +kernel)⟩
def lw_privs_1 : List (MethodName × Nat) := [(⟨"RootDuel$Reader", "beginText", "()V"⟩, 13), (⟨"RootDuel$Reader", "nextToken", "()V"⟩, 13), (⟨"RootDuel$Reader", "kindAt", "(I)I"⟩, 13), (⟨"RootDuel$Reader", "readStatement", "(LRootDuel$Contest;)Z"⟩, 13), (⟨"RootDuel$Reader", "isWord", "(Ljava/lang/String;)Z"⟩, 13), (⟨"RootDuel$Reader", "readStart", "(LRootDuel$Contest;)Z"⟩, 13), (⟨"RootDuel$Reader", "readInteger", "(II)Z"⟩, 13), (⟨"RootDuel$Reader", "fail", "(I)Z"⟩, 13), (⟨"RootDuel$Reader", "readNumber", "(II)Z"⟩, 13), (⟨"RootDuel$Reader", "settingOfWord", "()I"⟩, 13), (⟨"RootDuel$Reader", "readSetting", "(LRootDuel$Contest;I)Z"⟩, 13), (⟨"RootDuel$Reader", "readSemicolon", "()Z"⟩, 13), (⟨"RootDuel$Reader", "readCommand", "(I)Z"⟩, 13), (⟨"RootDuel$Reader", "actOfWord", "()I"⟩, 13), (⟨"RootDuel$Reader", "keep", "(II)Z"⟩, 13), (⟨"RootDuel$Reader", "readTerm", "(I)Z"⟩, 13)]
theorem lw_r1 : ∀ q ∈ lw_privs_1, lw_okq q := List.forall_mem_cons.mpr ⟨lw_p0, List.forall_mem_cons.mpr ⟨lw_p1, List.forall_mem_cons.mpr ⟨lw_p2, List.forall_mem_cons.mpr ⟨lw_p3, List.forall_mem_cons.mpr ⟨lw_p4, List.forall_mem_cons.mpr ⟨lw_p5, List.forall_mem_cons.mpr ⟨lw_p6, List.forall_mem_cons.mpr ⟨lw_p7, List.forall_mem_cons.mpr ⟨lw_p8, List.forall_mem_cons.mpr ⟨lw_p9, List.forall_mem_cons.mpr ⟨lw_p10, List.forall_mem_cons.mpr ⟨lw_p11, List.forall_mem_cons.mpr ⟨lw_p12, List.forall_mem_cons.mpr ⟨lw_p13, List.forall_mem_cons.mpr ⟨lw_p14, List.forall_mem_cons.mpr ⟨lw_p15, fun _ h => absurd h List.not_mem_nil⟩⟩⟩⟩⟩⟩⟩⟩⟩⟩⟩⟩⟩⟩⟩⟩
theorem lw_p16 : lw_okq (⟨"RootDuel$Reader", "readClaim", "()Z"⟩, 13) := ⟨⟨by decide +kernel, by decide +kernel⟩, List.mem_of_getElem? (i := 120) (by decide +kernel), List.mem_of_getElem? (i := 362) (by decide +kernel), List.mem_of_getElem? (i := 363) (by decide +kernel)⟩
theorem lw_p17 : lw_okq (⟨"RootDuel", "layTerm", "(II)I"⟩, 9) := ⟨⟨by decide +kernel, by decide +kernel⟩, List.mem_of_getElem? (i := 34) (by decide +kernel), List.mem_of_getElem? (i := 372) (by decide +kernel), List.mem_of_getElem? (i := 373) (by decide +kernel)⟩
theorem lw_p18 : lw_okq (⟨"RootDuel$Contest", "isZeroBut", "(I)Z"⟩, 9) := ⟨⟨by decide +kernel, by decide +kernel⟩, List.mem_of_getElem? (i := 42) (by decide +kernel), List.mem_of_getElem? (i := 393) (by decide +kernel), List.mem_of_getElem? (i := 394) (by decide +kernel)⟩
theorem lw_p19 : lw_okq (⟨"RootDuel$SignRows", "addWork", "()Z"⟩, 4) := ⟨⟨by decide +kernel, by decide +kernel⟩, List.mem_of_getElem? (i := 96) (by decide +kernel), List.mem_of_getElem? (i := 413) (by decide +kernel), List.mem_of_getElem? (i := 414) (by decide +kernel)⟩
theorem lw_p20 : lw_okq (⟨"RootDuel$SignRows", "reduce", "()V"⟩, 4) := ⟨⟨by decide +kernel, by decide +kernel⟩, List.mem_of_getElem? (i := 96) (by decide +kernel), List.mem_of_getElem? (i := 417) (by decide +kernel), List.mem_of_getElem? (i := 418) (by decide +kernel)⟩
theorem lw_p21 : lw_okq (⟨"RootDuel$SignRows", "derive", "()V"⟩, 4) := ⟨⟨by decide +kernel, by decide +kernel⟩, List.mem_of_getElem? (i := 96) (by decide +kernel), List.mem_of_getElem? (i := 425) (by decide +kernel), List.mem_of_getElem? (i := 426) (by decide +kernel)⟩
theorem lw_p22 : lw_okq (⟨"RootDuel$SignRows", "divide", "()V"⟩, 4) := ⟨⟨by decide +kernel, by decide +kernel⟩, List.mem_of_getElem? (i := 96) (by decide +kernel), List.mem_of_getElem? (i := 429) (by decide +kernel), List.mem_of_getElem? (i := 430) (by decide +kernel)⟩
theorem lw_p23 : lw_okq (⟨"RootDuel$SignRows", "cancel", "(I[JI)V"⟩, 4) := ⟨⟨by decide +kernel, by decide +kernel⟩, List.mem_of_getElem? (i := 96) (by decide +kernel), List.mem_of_getElem? (i := 433) (by decide +kernel), List.mem_of_getElem? (i := 434) (by decide +kernel)⟩
theorem lw_p24 : lw_okq (⟨"RootDuel$SignRows", "signAbove", "(III)I"⟩, 4) := ⟨⟨by decide +kernel, by decide +kernel⟩, List.mem_of_getElem? (i := 96) (by decide +kernel), List.mem_of_getElem? (i := 453) (by decide +kernel), List.mem_of_getElem? (i := 454) (by decide +kernel)⟩
theorem lw_p25 : lw_okq (⟨"RootDuel$Contest", "endsWithTwoPasses", "()Z"⟩, 9) := ⟨⟨by decide +kernel, by decide +kernel⟩, List.mem_of_getElem? (i := 42) (by decide +kernel), List.mem_of_getElem? (i := 457) (by decide +kernel), List.mem_of_getElem? (i := 458) (by decide +kernel)⟩
theorem lw_p26 : lw_okq (⟨"RootDuel", "settle", "(I)I"⟩, 9) := ⟨⟨by decide +kernel, by decide +kernel⟩, List.mem_of_getElem? (i := 34) (by decide +kernel), List.mem_of_getElem? (i := 465) (by decide +kernel), List.mem_of_getElem? (i := 466) (by decide +kernel)⟩
theorem lw_p27 : lw_okq (⟨"RootDuel", "makeClaim", "(IIIII)I"⟩, 9) := ⟨⟨by decide +kernel, by decide +kernel⟩, List.mem_of_getElem? (i := 34) (by decide +kernel), List.mem_of_getElem? (i := 469) (by decide +kernel), List.mem_of_getElem? (i := 470) (by decide +kernel)⟩
theorem lw_p28 : lw_okq (⟨"RootDuel$Contest", "overlaps", "(III)Z"⟩, 9) := ⟨⟨by decide +kernel, by decide +kernel⟩, List.mem_of_getElem? (i := 42) (by decide +kernel), List.mem_of_getElem? (i := 492) (by decide +kernel), List.mem_of_getElem? (i := 493) (by decide +kernel)⟩
theorem lw_p29 : lw_okq (⟨"RootDuel", "passTurn", "()I"⟩, 9) := ⟨⟨by decide +kernel, by decide +kernel⟩, List.mem_of_getElem? (i := 34) (by decide +kernel), List.mem_of_getElem? (i := 507) (by decide +kernel), List.mem_of_getElem? (i := 508) (by decide +kernel)⟩
theorem lw_p30 : lw_okq (⟨"java/lang/Throwable", "fillInStackTrace", "(I)Ljava/lang/Throwable;"⟩, 6) := ⟨⟨by decide +kernel, by decide +kernel⟩, List.mem_of_getElem? (i := 553) (by decide +kernel), List.mem_of_getElem? (i := 551) (by decide +kernel), List.mem_of_getElem? (i := 552) (by decide +kernel)⟩
theorem lw_p31 : lw_okq (⟨"RootDuel", "buildRows", "([I)V"⟩, 9) := ⟨⟨by decide +kernel, by decide +kernel⟩, List.mem_of_getElem? (i := 34) (by decide +kernel), List.mem_of_getElem? (i := 623) (by decide +kernel), List.mem_of_getElem? (i := 624) (by decide +kernel)⟩
def lw_privs_2 : List (MethodName × Nat) := [(⟨"RootDuel$Reader", "readClaim", "()Z"⟩, 13), (⟨"RootDuel", "layTerm", "(II)I"⟩, 9), (⟨"RootDuel$Contest", "isZeroBut", "(I)Z"⟩, 9), (⟨"RootDuel$SignRows", "addWork", "()Z"⟩, 4), (⟨"RootDuel$SignRows", "reduce", "()V"⟩, 4), (⟨"RootDuel$SignRows", "derive", "()V"⟩, 4), (⟨"RootDuel$SignRows", "divide", "()V"⟩, 4), (⟨"RootDuel$SignRows", "cancel", "(I[JI)V"⟩, 4), (⟨"RootDuel$SignRows", "signAbove", "(III)I"⟩, 4), (⟨"RootDuel$Contest", "endsWithTwoPasses", "()Z"⟩, 9), (⟨"RootDuel", "settle", "(I)I"⟩, 9), (⟨"RootDuel", "makeClaim", "(IIIII)I"⟩, 9), (⟨"RootDuel$Contest", "overlaps", "(III)Z"⟩, 9), (⟨"RootDuel", "passTurn", "()I"⟩, 9), (⟨"java/lang/Throwable", "fillInStackTrace", "(I)Ljava/lang/Throwable;"⟩, 6), (⟨"RootDuel", "buildRows", "([I)V"⟩, 9)]
theorem lw_r2 : ∀ q ∈ lw_privs_2, lw_okq q := List.forall_mem_cons.mpr ⟨lw_p16, List.forall_mem_cons.mpr ⟨lw_p17, List.forall_mem_cons.mpr ⟨lw_p18, List.forall_mem_cons.mpr ⟨lw_p19, List.forall_mem_cons.mpr ⟨lw_p20, List.forall_mem_cons.mpr ⟨lw_p21, List.forall_mem_cons.mpr ⟨lw_p22, List.forall_mem_cons.mpr ⟨lw_p23, List.forall_mem_cons.mpr ⟨lw_p24, List.forall_mem_cons.mpr ⟨lw_p25, List.forall_mem_cons.mpr ⟨lw_p26, List.forall_mem_cons.mpr ⟨lw_p27, List.forall_mem_cons.mpr ⟨lw_p28, List.forall_mem_cons.mpr ⟨lw_p29, List.forall_mem_cons.mpr ⟨lw_p30, List.forall_mem_cons.mpr ⟨lw_p31, fun _ h => absurd h List.not_mem_nil⟩⟩⟩⟩⟩⟩⟩⟩⟩⟩⟩⟩⟩⟩⟩⟩
theorem lw_p32 : lw_okq (⟨"RootDuel$Page", "putClaim", "(LRootDuel$Contest;II)V"⟩, 2) := ⟨⟨by decide +kernel, by decide +kernel⟩, List.mem_of_getElem? (i := 169) (by decide +kernel), List.mem_of_getElem? (i := 730) (by decide +kernel), List.mem_of_getElem? (i := 731) (by decide +kernel)⟩
theorem lw_p33 : lw_okq (⟨"RootDuel$Page", "putText", "(Ljava/lang/String;)V"⟩, 2) := ⟨⟨by decide +kernel, by decide +kernel⟩, List.mem_of_getElem? (i := 169) (by decide +kernel), List.mem_of_getElem? (i := 736) (by decide +kernel), List.mem_of_getElem? (i := 737) (by decide +kernel)⟩
theorem lw_p34 : lw_okq (⟨"RootDuel$Page", "putSign", "(C)V"⟩, 2) := ⟨⟨by decide +kernel, by decide +kernel⟩, List.mem_of_getElem? (i := 169) (by decide +kernel), List.mem_of_getElem? (i := 742) (by decide +kernel), List.mem_of_getElem? (i := 743) (by decide +kernel)⟩
theorem lw_p35 : lw_okq (⟨"RootDuel$Page", "putSpaced", "(I)V"⟩, 2) := ⟨⟨by decide +kernel, by decide +kernel⟩, List.mem_of_getElem? (i := 169) (by decide +kernel), List.mem_of_getElem? (i := 746) (by decide +kernel), List.mem_of_getElem? (i := 747) (by decide +kernel)⟩
theorem lw_p36 : lw_okq (⟨"RootDuel$Page", "putNumber", "(I)V"⟩, 2) := ⟨⟨by decide +kernel, by decide +kernel⟩, List.mem_of_getElem? (i := 169) (by decide +kernel), List.mem_of_getElem? (i := 750) (by decide +kernel), List.mem_of_getElem? (i := 751) (by decide +kernel)⟩
theorem lw_p37 : lw_okq (⟨"java/util/ArrayList", "add", "(Ljava/lang/Object;[Ljava/lang/Object;I)V"⟩, 3) := ⟨⟨by decide +kernel, by decide +kernel⟩, List.mem_of_getElem? (i := 805) (by decide +kernel), List.mem_of_getElem? (i := 838) (by decide +kernel), List.mem_of_getElem? (i := 839) (by decide +kernel)⟩
theorem lw_p38 : lw_okq (⟨"java/util/ArrayList", "grow", "()[Ljava/lang/Object;"⟩, 3) := ⟨⟨by decide +kernel, by decide +kernel⟩, List.mem_of_getElem? (i := 805) (by decide +kernel), List.mem_of_getElem? (i := 842) (by decide +kernel), List.mem_of_getElem? (i := 843) (by decide +kernel)⟩
theorem lw_p39 : lw_okq (⟨"java/util/ArrayList", "grow", "(I)[Ljava/lang/Object;"⟩, 3) := ⟨⟨by decide +kernel, by decide +kernel⟩, List.mem_of_getElem? (i := 805) (by decide +kernel), List.mem_of_getElem? (i := 846) (by decide +kernel), List.mem_of_getElem? (i := 847) (by decide +kernel)⟩
theorem lw_p40 : lw_okq (⟨"RootDuel", "derivativeChanges", "(I)I"⟩, 9) := ⟨⟨by decide +kernel, by decide +kernel⟩, List.mem_of_getElem? (i := 34) (by decide +kernel), List.mem_of_getElem? (i := 1107) (by decide +kernel), List.mem_of_getElem? (i := 1108) (by decide +kernel)⟩
theorem lw_p41 : lw_okq (⟨"RootDuel", "shiftTo", "(I)V"⟩, 9) := ⟨⟨by decide +kernel, by decide +kernel⟩, List.mem_of_getElem? (i := 34) (by decide +kernel), List.mem_of_getElem? (i := 1111) (by decide +kernel), List.mem_of_getElem? (i := 1112) (by decide +kernel)⟩
theorem lw_p42 : lw_okq (⟨"RootDuel$SignRows", "descend", "()V"⟩, 4) := ⟨⟨by decide +kernel, by decide +kernel⟩, List.mem_of_getElem? (i := 96) (by decide +kernel), List.mem_of_getElem? (i := 1121) (by decide +kernel), List.mem_of_getElem? (i := 1122) (by decide +kernel)⟩
theorem lw_p43 : lw_okq (⟨"RootDuel", "leadBehind", "(II)I"⟩, 9) := ⟨⟨by decide +kernel, by decide +kernel⟩, List.mem_of_getElem? (i := 34) (by decide +kernel), List.mem_of_getElem? (i := 1186) (by decide +kernel), List.mem_of_getElem? (i := 1187) (by decide +kernel)⟩
def lw_privs_3 : List (MethodName × Nat) := [(⟨"RootDuel$Page", "putClaim", "(LRootDuel$Contest;II)V"⟩, 2), (⟨"RootDuel$Page", "putText", "(Ljava/lang/String;)V"⟩, 2), (⟨"RootDuel$Page", "putSign", "(C)V"⟩, 2), (⟨"RootDuel$Page", "putSpaced", "(I)V"⟩, 2), (⟨"RootDuel$Page", "putNumber", "(I)V"⟩, 2), (⟨"java/util/ArrayList", "add", "(Ljava/lang/Object;[Ljava/lang/Object;I)V"⟩, 3), (⟨"java/util/ArrayList", "grow", "()[Ljava/lang/Object;"⟩, 3), (⟨"java/util/ArrayList", "grow", "(I)[Ljava/lang/Object;"⟩, 3), (⟨"RootDuel", "derivativeChanges", "(I)I"⟩, 9), (⟨"RootDuel", "shiftTo", "(I)V"⟩, 9), (⟨"RootDuel$SignRows", "descend", "()V"⟩, 4), (⟨"RootDuel", "leadBehind", "(II)I"⟩, 9)]
theorem lw_r3 : ∀ q ∈ lw_privs_3, lw_okq q := List.forall_mem_cons.mpr ⟨lw_p32, List.forall_mem_cons.mpr ⟨lw_p33, List.forall_mem_cons.mpr ⟨lw_p34, List.forall_mem_cons.mpr ⟨lw_p35, List.forall_mem_cons.mpr ⟨lw_p36, List.forall_mem_cons.mpr ⟨lw_p37, List.forall_mem_cons.mpr ⟨lw_p38, List.forall_mem_cons.mpr ⟨lw_p39, List.forall_mem_cons.mpr ⟨lw_p40, List.forall_mem_cons.mpr ⟨lw_p41, List.forall_mem_cons.mpr ⟨lw_p42, List.forall_mem_cons.mpr ⟨lw_p43, fun _ h => absurd h List.not_mem_nil⟩⟩⟩⟩⟩⟩⟩⟩⟩⟩⟩⟩
def lw_privs : List (MethodName × Nat) := lw_privs_1 ++ (lw_privs_2 ++ (lw_privs_3))
def lw_tbl : List Cond := k2_sels lw_privs ++ tables_1
theorem lw_privs_ok : ∀ q ∈ lw_privs, lw_okq q := by
  show ∀ q ∈ lw_privs_1 ++ (lw_privs_2 ++ (lw_privs_3)), lw_okq q
  exact List.forall_mem_append.mpr ⟨lw_r1, List.forall_mem_append.mpr ⟨lw_r2, lw_r3⟩⟩
/-- the streams that the claim lets the run draw from -/
abbrev lw_cs : List Choice := [Jvm.Choice.named "NaN.bits"]
theorem lw_bits : nanBits ∈ lw_cs := by first | decide | exact List.mem_cons_self | simp [lw_cs, nanBits]
end
section
/-- arrays over arrays: a word that the printed rows name and the pinned kit lacks; as the kit has it for classes -/
def va_AOA (ty : FieldType) (U : State) : Prop := (Cond.arrayOver (.array ty)).before #[] U = true
theorem va_AOA.use {ty : FieldType} {A : Array Value} {U : State} (h : va_AOA ty U) : (Cond.arrayOver (.array ty)).before A U = true := h
/-! ===== BEGIN words of one list among another's, by their places ===== -/
theorem goodIn_r {big : List Cond} (ws : List Cond) (ps : List Nat) (hp : ws = ps.filterMap (fun i => big[i]?)) (h : ws.all goodWord = true) : GoodIn big ws := by
  intro w hw
  have h1 := List.all_eq_true.mp h w hw
  rw [hp] at hw
  obtain ⟨i, -, hi⟩ := List.mem_filterMap.mp hw
  have hm : w ∈ big := by first | exact List.mem_of_getElem? hi | exact List.getElem?_mem hi
  exact ⟨hm, good_of_word h1⟩
theorem goodIn_app {big a b : List Cond} (ha : GoodIn big a) (hb : GoodIn big b) : GoodIn big (a ++ b) := fun w h => (List.mem_append.mp h).elim (ha w) (hb w)
theorem goodIn_ca {big a b : List Cond} {c : Cond} (ha : GoodIn big (c :: a)) (hb : GoodIn big b) : GoodIn big (c :: (a ++ b)) := fun w h => (List.mem_cons.mp h).elim (fun e => ha w (List.mem_cons.mpr (Or.inl e))) (fun h => (List.mem_append.mp h).elim (fun h => ha w (List.mem_cons.mpr (Or.inr h))) (hb w))
theorem goodIn_sub {big ws : List Cond} (hm : ∀ w ∈ ws, w ∈ big) (h : ws.all goodWord = true) : GoodIn big ws := fun w hw => ⟨hm w hw, good_of_word (List.all_eq_true.mp h w hw)⟩
/-! ===== END ===== -/

/-! ===== BEGIN new T[n][m]: the outer array a place, the inner ones among the pooled ===== -/
/-- f, but v at every address of l -/
def vr_up {α : Type} (f : Nat → α) (l : List Nat) (v : α) : Nat → α := fun a => if a ∈ l then v else f a
theorem vr_up_in {α : Type} {f : Nat → α} {l : List Nat} {v : α} {a : Nat} (h : a ∈ l) : vr_up f l v a = v := if_pos h
theorem vr_up_ne {α : Type} {f : Nat → α} {l : List Nat} {v : α} {a : Nat} (h : a ∉ l) : vr_up f l v a = f a := if_neg h
theorem vr_rows {L l : List Nat} {f : Nat → va_E} {e : va_E} (h : ∀ a, a ∈ l → a ∉ L) : va_pl L f ++ l.map (fun a => (a, e)) = va_pl (L ++ l) (vr_up f l e) := by
  unfold va_pl
  rw [List.map_append]
  congr 1
  · apply List.map_congr_left
    intro a ha
    rw [vr_up_ne (fun q => h a q ha)]
  · apply List.map_congr_left
    intro a ha
    rw [vr_up_in ha]
theorem vr_lay {X rows : va_W} {x : Nat × va_E} {pl : va_W} {D : va_G} {cl : List vw_C} {H : Heap} (hP : va_P D cl (((X ++ pl) ++ [x]) ++ rows) H) : va_P D cl ((X ++ [x]) ++ (pl ++ rows)) H := by
  rw [List.append_assoc (X ++ pl)] at hP
  have h := va_P.swap hP
  rw [← List.append_assoc X] at h
  have h2 := va_P.swap h
  rw [List.append_assoc (X ++ [x])] at h2
  exact h2
theorem vr_layD {X rows : va_W} {x : Nat × va_E} {pl : va_W} {A : Nat → Prop} (hD : va_D A (((X ++ pl) ++ [x]) ++ rows)) : va_D A ((X ++ [x]) ++ (pl ++ rows)) := by
  rw [List.append_assoc (X ++ pl)] at hD
  have h := va_D.swap hD
  rw [← List.append_assoc X] at h
  have h2 := va_D.swap h
  rw [List.append_assoc (X ++ [x])] at h2
  exact h2
theorem vr_outer (c : ClassId) (N h0 : Nat) : ∀ i : Nat, Jvm.Free.Multi.outerC c N h0 i = arrV c N (fun j => va_rf (if j < i then some (h0 + 1 + j) else none))
  | 0 => by
    show ({ cls := c, slots := Array.replicate N .null, vm := .none } : Cell) = _
    rw [arrV_new]
    refine congrArg (arrV c N) (funext fun j => ?_)
    simp [va_rf]
  | i + 1 => by
    show (Jvm.Free.Multi.outerC c N h0 i).setSlot i (.ref (h0 + 1 + i)) = _
    rw [vr_outer c N h0 i, arrV_store]
    refine congrArg (arrV c N) (funext fun j => ?_)
    by_cases e : j = i
    · subst e
      simp [updV, va_rf]
    · by_cases h : j < i
      · simp [updV, e, h, Nat.lt_succ_of_lt h]
      · simp [updV, e, h, show ¬ j < i + 1 by omega]
section VGM
variable {p : Program} {l : Launch} {e : Env} {R : Room} {s : State} {m : MethodId} {args : Array Value} {below : List Frame} {meth : Method} {c : Code} {H : Heap} {locs : List Loc} {cells slots : Nat} {Q : State → Prop}
variable {cc : ByteArray} {pc : Nat} {ls : Array Slot} {rest : List Value} {D : va_G} {cl : List vw_C} {A : Nat → Prop} {a : Nat} {tys : List (ClassId × FieldType)} {ws : va_W} {H0 : Heap}
theorem va_mna {X : va_W} {L : List Nat} {f : Nat → va_E} {cc : ByteArray} (hexec : p.tables.exec = Jvm.exec) (hb : c.code = cc) {own : String} {index : Nat} {ty : FieldType} {cy : ClassId} (hown : s.vm.findClass own = some m.cls) (hclink : (Cond.classLink own index ("[" ++ (FieldType.array ty).toString)).before args s = true) (hover : va_AOA ty s) (harr : (Cond.arrayClass ty).before args s = true) (hcy : s.vm.findClass (FieldType.array ty).toString = some cy)
    (hK : va_K D cl tys s) (hP : va_P D cl (X ++ va_pl L f) H) (hD : va_D A (X ++ va_pl L f)) (hS : va_S A H0 H locs) (hA : ∀ q, H0.size ≤ q → A q) {n k : Int32} {N' K' : Nat} {z : vp_A} (hn : ¬ n < 0) (hk : ¬ k < 0) (hN : n.toNatClampNeg = N') (hM : k.toNatClampNeg = K')
    (hb1 : N' * 4 ≤ 536870912) (hb2 : K' * componentBytes ty ≤ 536870912) (hb3 : K' ≤ 536870912) (hdf : fits ty (defaultValue ty) = true) (hdd : (defaultValue ty).isDefault = true) (hcells : cells + (1 + N') ≤ R.cells) (hslots : slots + (N' + N' * K') ≤ R.slots) (hz : ∀ c : ClassId, Jvm.Free.Multi.innerC c K' (defaultValue ty) = vp_cell c z) (hdg : decode cc pc = .ok (.multianewarray index 2, 4))
    (kk : ∀ (q : Nat) (r : Nat → Nat) (cA : ClassId) (H1 : Heap), (∀ i j : Nat, i < N' → j < N' → r i = r j → i = j) → (∀ i : Nat, i < N' → r i ∉ L) → va_K D cl (tys ++ [(cA, .array ty)]) s →
      va_P D cl ((X ++ [(q, .inl (cA, N', .inr (.inr (.inr (.inr (fun i => if i < N' then some (r i) else none))))))]) ++ va_pl (L ++ (List.range N').map r) (vr_up f ((List.range N').map r) (.inl (cy, z)))) H1 → va_D A ((X ++ [(q, .inl (cA, N', .inr (.inr (.inr (.inr (fun i => if i < N' then some (r i) else none))))))]) ++ va_pl (L ++ (List.range N').map r) (vr_up f ((List.range N').map r) (.inl (cy, z)))) → va_S A H0 H1 locs →
      W p l e R s m args below meth c H1 locs (cells + 1 + N') (slots + N' + N' * K') Q (F0 m (pc + 4) ls (.ref q :: rest))) : W p l e R s m args below meth c H locs cells slots Q (F0 m pc ls (.int k :: .int n :: rest)) := by
  subst hN
  subst hM
  intro T hT Xs
  obtain ⟨vm₁, cA, comp, -, fA, fC, hO, -, X', step⟩ := Xs.multianewarray2F hexec hown hclink (va_AOA.use hover) harr (g := F0 m pc ls (.int k :: .int n :: rest)) rfl (by rw [hb]; exact hdg) rfl hn hk hb1 hb2 hb3 hdf hdd hcells hslots
  have ec : some cy = some comp := hcy.symm.trans fC
  cases ec
  generalize hF : Jvm.Free.Multi.fill (T.setVm vm₁) cA cy n.toNatClampNeg k.toNatClampNeg (defaultValue ty) n.toNatClampNeg = F at X' step
  have hTh : (T.setVm vm₁).heap = H := hT
  obtain ⟨f1, f2, -, -⟩ := Jvm.Free.Multi.fill_facts (T.setVm vm₁) cA cy n.toNatClampNeg k.toNatClampNeg (defaultValue ty) n.toNatClampNeg
  rw [hF, hTh] at f1 f2
  have hold : ∀ x : Nat, x < H.size → F.heap[x]? = H[x]? := fun x hx => by
    have := Jvm.Free.Multi.fill_old (T.setVm vm₁) cA cy n.toNatClampNeg k.toNatClampNeg (defaultValue ty) (a := x) (by rw [hTh]; exact hx) n.toNatClampNeg
    rw [hF, hTh] at this
    exact this
  have hrow : ∀ j : Nat, j < n.toNatClampNeg → F.heap[H.size + 1 + j]? = some (vp_cell cy z) := fun j hj => by
    have := Jvm.Free.Multi.fill_inner (T.setVm vm₁) cA cy n.toNatClampNeg k.toNatClampNeg (defaultValue ty) n.toNatClampNeg j hj
    rw [hF, hTh, hz] at this
    exact this
  have hout : Jvm.Free.Multi.outerC cA n.toNatClampNeg H.size n.toNatClampNeg = vp_cell cA (n.toNatClampNeg, .inr (.inr (.inr (.inr (fun i => if i < n.toNatClampNeg then some (H.size + 1 + i) else none))))) := by
    rw [vp_cell_q]
    exact vr_outer cA n.toNatClampNeg H.size n.toNatClampNeg
  rw [hout] at f2
  have hlt : ∀ a, a ∈ L → a < H.size := fun a ha => by
    obtain ⟨k9, hk9⟩ := va_pl_get (X := X) (f := f) ha
    exact (hP k9 _ hk9).lt
  have hnl : ∀ i : Nat, i < n.toNatClampNeg → H.size + 1 + i ∉ L := fun i _ h => by
    have := hlt _ h
    omega
  have hnm : ∀ a, a ∈ (List.range n.toNatClampNeg).map (fun i => H.size + 1 + i) → a ∉ L := fun a ha h => by
    obtain ⟨i, -, rfl⟩ := List.mem_map.mp ha
    have := hlt _ h
    omega
  have hP0 : va_P D cl (X ++ va_pl L f) F.heap := hP.kept (fun k9 x hx => hold x.1 ((hP k9 x hx).lt))
  have hP1 : va_P D cl ((X ++ va_pl L f) ++ [(H.size, .inl (cA, n.toNatClampNeg, .inr (.inr (.inr (.inr (fun i => if i < n.toNatClampNeg then some (H.size + 1 + i) else none))))))]) F.heap := hP0.app (fun k9 x hx => by
    have h0 : k9 < 1 := (List.getElem?_eq_some_iff.mp hx).1
    rw [show k9 = 0 by omega] at hx
    cases hx
    exact f2)
  have hP2 : va_P D cl (((X ++ va_pl L f) ++ [(H.size, .inl (cA, n.toNatClampNeg, .inr (.inr (.inr (.inr (fun i => if i < n.toNatClampNeg then some (H.size + 1 + i) else none))))))]) ++ ((List.range n.toNatClampNeg).map (fun i => H.size + 1 + i)).map (fun a => (a, .inl (cy, z)))) F.heap := hP1.app (fun k9 x hx => by
    obtain ⟨a, ha, rfl⟩ := List.mem_map.mp (List.mem_of_getElem? hx)
    obtain ⟨i, hi, rfl⟩ := List.mem_map.mp ha
    exact hrow i (List.mem_range.mp hi))
  have hD2 : va_D A (((X ++ va_pl L f) ++ [(H.size, .inl (cA, n.toNatClampNeg, .inr (.inr (.inr (.inr (fun i => if i < n.toNatClampNeg then some (H.size + 1 + i) else none))))))]) ++ ((List.range n.toNatClampNeg).map (fun i => H.size + 1 + i)).map (fun a => (a, .inl (cy, z)))) := by
    have hD1 := hD.push (e := .inl (cA, n.toNatClampNeg, .inr (.inr (.inr (.inr (fun i => if i < n.toNatClampNeg then some (H.size + 1 + i) else none)))))) hP rfl (hA _ hS.1)
    generalize hW1 : (X ++ va_pl L f) ++ [(H.size, .inl (cA, n.toNatClampNeg, .inr (.inr (.inr (.inr (fun i => if i < n.toNatClampNeg then some (H.size + 1 + i) else none))))))] = W1 at hD1 hP1 ⊢
    have hle : ∀ (k9 : Nat) (x : Nat × va_E), W1[k9]? = some x → x.1 ≤ H.size := fun k9 x hx => by
      rw [← hW1] at hx
      by_cases hl : k9 < (X ++ va_pl L f).length
      · rw [List.getElem?_append_left hl] at hx
        exact Nat.le_of_lt ((hP k9 x hx).lt)
      · rw [List.getElem?_append_right (by omega)] at hx
        have h0 : k9 - (X ++ va_pl L f).length < 1 := (List.getElem?_eq_some_iff.mp hx).1
        rw [show k9 - (X ++ va_pl L f).length = 0 by omega] at hx
        cases hx
        exact Nat.le_refl _
    have hr : ∀ (k9 : Nat) (x : Nat × va_E), (((List.range n.toNatClampNeg).map (fun i => H.size + 1 + i)).map (fun a => ((a, .inl (cy, z)) : Nat × va_E)))[k9]? = some x → x.1 = H.size + 1 + k9 := fun k9 x hx => by
      rw [List.getElem?_map, List.getElem?_map] at hx
      by_cases h9 : k9 < n.toNatClampNeg
      · rw [List.getElem?_range h9] at hx
        cases hx
        rfl
      · have hn0 : (List.range n.toNatClampNeg)[k9]? = none := List.getElem?_eq_none (by rw [List.length_range]; omega)
        rw [hn0] at hx
        cases hx
    refine ⟨fun i j x y hi hj hxy => ?_, fun k9 x hx => ?_⟩
    · by_cases h1 : i < W1.length <;> by_cases h2 : j < W1.length
      · rw [List.getElem?_append_left h1] at hi
        rw [List.getElem?_append_left h2] at hj
        exact hD1.1 i j x y hi hj hxy
      · rw [List.getElem?_append_left h1] at hi
        rw [List.getElem?_append_right (by omega)] at hj
        have := hle _ _ hi
        have := hr _ _ hj
        omega
      · rw [List.getElem?_append_right (by omega)] at hi
        rw [List.getElem?_append_left h2] at hj
        have := hle _ _ hj
        have := hr _ _ hi
        omega
      · rw [List.getElem?_append_right (by omega)] at hi hj
        have := hr _ _ hi
        have := hr _ _ hj
        omega
    · by_cases h1 : k9 < W1.length
      · rw [List.getElem?_append_left h1] at hx
        exact hD1.2 k9 x hx
      · rw [List.getElem?_append_right (by omega)] at hx
        have := hr _ _ hx
        exact hA _ (by have := hS.1; omega)
  have hAr : ArrOfT s cA (.array ty) := fun N9 z9 => by
    obtain ⟨-, k9, hk9, cm9, hkk9⟩ := (hO 0 0 0).1
    exact ⟨(fun q hq => by cases hq), k9, hk9, cm9, hkk9⟩
  have hK2 : va_K D cl (tys ++ [(cA, .array ty)]) s := ⟨hK.1, fun k9 x hx => by
    by_cases hl : k9 < tys.length
    · rw [List.getElem?_append_left hl] at hx
      exact hK.2 k9 x hx
    · rw [List.getElem?_append_right (by omega)] at hx
      have h0 : k9 - tys.length < 1 := (List.getElem?_eq_some_iff.mp hx).1
      rw [show k9 - tys.length = 0 by omega] at hx
      cases hx
      exact ⟨hAr, fA⟩⟩
  obtain ⟨t, a1, b1⟩ := kk H.size (fun i => H.size + 1 + i) cA F.heap (fun i j _ _ h => by have h9 : H.size + 1 + i = H.size + 1 + j := h; omega) hnl hK2 (by rw [← vr_rows hnm]; exact vr_lay hP2) (by rw [← vr_rows hnm]; exact vr_layD hD2) ⟨by rw [f1]; have := hS.1; omega, fun x h1 h2 => (hold x (Nat.lt_of_lt_of_le h1 hS.1)).trans (hS.2.1 x h1 h2), hS.2.2⟩ F rfl X'
  refine ⟨t, step t ?_, b1⟩
  have e : T.heap.size = H.size := by rw [hT]
  rw [e]
  exact a1
end VGM
/-! ===== END ===== -/

/-! ===== BEGIN exceptions that leave a method, and their catching by the caller (launches without stack traces) ===== -/
section VXA
/-! The laws vx_back, vx_callV, vx_callS, vx_callSW, vx_throw0, vx_throwS follow proofs of the library, with one case more: JvmDerived/Free/Laws.lean (Back.of_free), Shelf42/LK1.lean (callV, callS), Shelf/KitTraced.lean (throwNew0V, throwNewS). -/
/-- where a method has thrown q: the class by its name, the cell, what was written, the world -/
def vx_T (XC : String → State → State → Prop) (st : State) (q : Addr) (t : State) (mc ms : Nat) (free : Addr → Prop) : Prop :=
  ∃ (E : String) (ce : Cell) (L : List Loc), XC E st t ∧ t.heap[q]? = some ce ∧ ce.vm = .none ∧ st.vm.findClass E = some ce.cls ∧ st.WarmedH t.vm ∧ st.sameButNew ({ t with vm := st.vm } : State) L mc ms ∧ ∀ z ∈ L, free z.base
def vx_Q (Qc : Array Value → State → Outcome → State → Prop) (XC : String → State → State → Prop) (mc ms : Nat) (free : Addr → Prop) : Array Value → State → Outcome → State → Prop := fun a st o t =>
  (Qc a st o t ∧ ∃ L, FrameEnd st o t L mc ms ∧ ∀ q ∈ L, free q.base) ∨ ∃ q, o = .threw q ∧ vx_T XC st q t mc ms free
/-- a callee that returns or throws -/
def vx_Met (l : Launch) (y : MethodName) (ws : List Cond) (rm : Room) (Pc : Array Value → State → Prop) (Qc : Array Value → State → Outcome → State → Prop) (XC : String → State → State → Prop) (mc ms : Nat) (free : Addr → Prop) : Prop :=
  MetFree l y (headSpec ws rm) Pc (fun _ _ _ _ _ => True) (vx_Q Qc XC mc ms free)
def vx_Post (XC : String → State → State → Prop) (mc ms : Nat) (free : Addr → Prop) : Pt → Array Value → Addr → Pt → Prop := fun A a q B =>
  ∃ (g : JFrame) (mk : MethodId) (t : State) (L : List Loc) (E : String) (ce : Cell), B.U.heap = t.heap ∧ B.U.vm = t.vm ∧ XC E (A.U.calling g mk a) t ∧ t.heap[q]? = some ce ∧ ce.vm = .none ∧ A.U.vm.findClass E = some ce.cls ∧ B.locs = A.locs ++ L ∧ (∀ z ∈ L, free z.base) ∧ B.cells = A.cells + mc ∧ B.slots = A.slots + ms
def vx_Back (l : Launch) (R : Room) (p : Program) (e : Env) (below : List Frame) (s : State) (sargs : Array Value) (y : MethodName) (len W9 : Nat)
    (Pre : Pt → Array Value → Prop) (Post : Pt → Array Value → Option Value → Pt → Prop) (PostX : Pt → Array Value → Addr → Pt → Prop) : Prop :=
  ∀ (m : MethodId) (meth : Method) (c : Code) (A : Pt) (g : JFrame) (ig : Instr) (mk : MethodId) (a : Array Value),
    Stand p l e R s m sargs below meth c A.U A.locs A.cells A.slots → g.method = m → g.locals.size = c.maxLocals → decode c.code g.pc = .ok (ig, len) →
    2 * g.monitorRoom + (g.stack.map fun v => v.category).sum ≤ W9 → A.U.methodNamed? y = some mk → Pre A a →
    (∃ (v : Option Value) (B : Pt), Stand p l e R s m sargs below meth c B.U B.locs B.cells B.slots ∧ Post A a v B ∧
      Steps p.tables e below (doInvoke e (A.U.setTop g) [] mk a).1 (B.U.setTop { g with pc := g.pc + len, stack := v.toList ++ g.stack })) ∨
    (∃ (q : Addr) (B : Pt), Stand p l e R s m sargs below meth c B.U B.locs B.cells B.slots ∧ PostX A a q B ∧
      Steps p.tables e below (doInvoke e (A.U.setTop g) [] mk a).1 ((B.U.setTop g).pushFrame (.throwing q)))
section Payer
variable {l : Launch} {R : Room} {p : Program} {e : Env} {below : List Frame} {s : State} {sargs : Array Value} {y : MethodName} {len W9 : Nat}
theorem vx_back {ws : List Cond} {rm : Room} {Pc : Array Value → State → Prop} {Qc : Array Value → State → Outcome → State → Prop} {XC : String → State → State → Prop} {mc ms : Nat} {free : Addr → Prop} {bytes : ByteArray} {maxL : Nat} {ret : Option FieldType}
    (hM : vx_Met l y ws rm Pc Qc XC mc ms free) (hblind : FrameBlind Pc) (hrc : rm.cells = mc) (hrs : rm.slots = ms)
    (hframes : rm.frames + 1 ≤ R.frames) (hlocals : W9 + (maxL + 11) + rm.locals ≤ R.locals)
    (hws : ∀ w ∈ ws, ∀ a' U, s.WarmedH U.vm → w.before a' U = true) (hcode : Cond.code y bytes maxL ret ∈ ws) (hinit : ∀ a' U, s.WarmedH U.vm → (Cond.initialized y.cls).before a' U = true) :
    vx_Back l R p e below s sargs y len W9 (PreOf R mc ms Pc) (PostOf Qc mc ms free) (vx_Post XC mc ms free) := by
  intro m meth c A g ig mk a X hg hsize hdg hW hn hp
  have h1 : (headSpec ws rm).pre.before a A.U = true := atoms_intro fun w hw => hws w hw _ _ X.warmed
  have h2 : (Cond.code y bytes maxL ret).before a A.U = true := hws _ hcode _ _ X.warmed
  have h3 : (Cond.initialized y.cls).before a A.U = true := hinit _ _ X.warmed
  have h4 : A.cells + (headSpec ws rm).room.cells ≤ R.cells := by rw [show (headSpec ws rm).room.cells = mc from hrc]; exact hp.1
  have h5 : A.slots + (headSpec ws rm).room.slots ≤ R.slots := by rw [show (headSpec ws rm).room.slots = ms from hrs]; exact hp.2.1
  have hPc : Pc a (A.U.calling g mk a) := hblind _ _ _ _ hp.2.2
  obtain ⟨U, Ls, c0, s0⟩ := A
  dsimp only [Pt.U, Pt.locs, Pt.cells, Pt.slots] at h1 h2 h3 h4 h5 X hn hPc ⊢
  obtain ⟨methY, cY, hmY, hcY, -, hlY, -, -, -, -⟩ := Cond.code_spec hn h2
  obtain ⟨kY, hkY, -⟩ := className_of_methodNamed hn
  have hinitY : kY.init = .initialized := Cond.initialized_spec (findClass_of_methodNamed hn) hkY h3
  have h : At U g.method c below := by rw [hg]; exact X.here
  have hlocals9 : W9 + (maxL + 11) + (headSpec ws rm).room.locals ≤ R.locals := hlocals
  have happ : (headSpec ws rm).appliesLoose y e.platform (U.calling g mk a) = true :=
    Spec.appliesLoose_calling (g := g) h hdg hn hkY hinitY
      (X.room_calling (g := g) (R' := (headSpec ws rm).room) hsize hmY hcY hframes (by rw [hlY]; omega) h4 h5) h1
  obtain ⟨mid, hmid⟩ := h.above
  have hfr : (U.setTop g).frames = (.java g :: mid) ++ below := by rw [State.frames_setTop' g h.top, hmid]; rfl
  obtain ⟨o, s₂, hsteps, -, hend, hq⟩ := Steps.callFree hM p X.admits X.cas X.clock (acts := []) hfr happ hPc trivial
  have hq' : vx_Q Qc XC mc ms free a (U.calling g mk a) o s₂ := hq
  rw [State.frames_setTop' g h.top] at hend
  obtain ⟨g₀, hg0⟩ := Option.isSome_iff_exists.mp h.top
  obtain ⟨r, hr⟩ := State.topJava?_eq_some.mp hg0
  have hr' : (({ U with heap := s₂.heap, slotsUsed := s₂.slotsUsed } : State).setVm s₂.vm).frames = .java g₀ :: r := hr
  rcases hq' with ⟨hqc, L, hfe, hL⟩ | ⟨q, rfl, E, ce, L, hx, hce, hcv, hcl, hW₂, hsm, hL⟩
  · obtain ⟨⟨v, rfl⟩, hW₂, e2, q2, q3, q4, q5, q6⟩ := id hfe
    have e3 : s₂ = ({ (U.calling g mk a).setFrames s₂.frames with heap := s₂.heap, slotsUsed := s₂.slotsUsed } : State).setVm s₂.vm := by
      have : s₂ = ({ s₂ with vm := (U.calling g mk a).vm } : State).setVm s₂.vm := rfl
      rw [e2] at this
      exact this
    obtain ⟨c₂, i₂, len₂, hc₂, hd₂, hf₂⟩ := hend
    have hW' : U.WarmedH s₂.vm := hW₂
    have hcc : c₂ = c := by
      have h1 : s₂.code? g.method = U.code? g.method := by
        rw [State.code?_eq, State.code?_eq, hW'.alike.method?]
      exact Option.some.inj (hc₂.symm.trans (h1.trans h.code))
    subst hcc
    have hlen : len₂ = len := by rw [hdg] at hd₂; cases hd₂; rfl
    subst hlen
    have hs₂ : s₂ = (({ U with heap := s₂.heap, slotsUsed := s₂.slotsUsed } : State).setVm s₂.vm).setTop { g with pc := g.pc + len₂, stack := v.toList ++ g.stack } := by
      refine e3.trans ?_
      rw [hf₂, State.calling_eq h.top, State.setFrames_setFrames, State.setTop_of_frames _ hr', hr]
      rfl
    have hsame : U.sameButNew ({ U with heap := s₂.heap, slotsUsed := s₂.slotsUsed } : State) L mc ms := by
      refine ⟨?_, q2, q3, q4, q5, q6⟩
      obtain ⟨t, ht, -⟩ := State.frames_cons hr
      show ({ U with heap := s₂.heap, slotsUsed := s₂.slotsUsed } : State) = { U.setFrames U.frames with heap := s₂.heap, slotsUsed := s₂.slotsUsed }
      rw [State.setFrames_self ht]
    subst hg
    refine Or.inl ⟨v, ⟨(({ U with heap := s₂.heap, slotsUsed := s₂.slotsUsed } : State).setVm s₂.vm), Ls ++ L, c0 + mc, s0 + ms⟩,
      ⟨X.admits, X.cas, X.clock, X.frames, X.room, X.hears, X.method, X.code, (X.here.setHeapUsed s₂.heap s₂.slotsUsed).setVm hW'.alike, X.tail, State.WarmedH.trans X.warmed hW', X.limits, X.bytes, X.same.trans (hsame.setVm s.vm)⟩,
      ⟨g, mk, s₂, L, rfl, rfl, hqc, rfl, hL, rfl, rfl⟩, ?_⟩
    show Steps p.tables e below _ ((({ U with heap := s₂.heap, slotsUsed := s₂.slotsUsed } : State).setVm s₂.vm).setTop { g with pc := g.pc + len₂, stack := v.toList ++ g.stack })
    rw [← hs₂]
    exact hsteps
  · obtain ⟨e2, q2, q3, q4, q5, q6⟩ := id hsm
    have e3 : s₂ = ({ (U.calling g mk a).setFrames s₂.frames with heap := s₂.heap, slotsUsed := s₂.slotsUsed } : State).setVm s₂.vm := by
      have : s₂ = ({ s₂ with vm := (U.calling g mk a).vm } : State).setVm s₂.vm := rfl
      rw [e2] at this
      exact this
    have hf₂ : s₂.frames = .throwing q :: .java g :: U.frames.tail := hend
    have hW' : U.WarmedH s₂.vm := hW₂
    have hs₂ : s₂ = ((({ U with heap := s₂.heap, slotsUsed := s₂.slotsUsed } : State).setVm s₂.vm).setTop g).pushFrame (.throwing q) := by
      refine e3.trans ?_
      rw [hf₂, State.calling_eq h.top, State.setFrames_setFrames, State.pushFrame, State.frames_setTop _ hr', State.setTop_of_frames _ hr', State.setFrames_setFrames, hr]
      rfl
    have hsame : U.sameButNew ({ U with heap := s₂.heap, slotsUsed := s₂.slotsUsed } : State) L mc ms := by
      refine ⟨?_, q2, q3, q4, q5, q6⟩
      obtain ⟨t, ht, -⟩ := State.frames_cons hr
      show ({ U with heap := s₂.heap, slotsUsed := s₂.slotsUsed } : State) = { U.setFrames U.frames with heap := s₂.heap, slotsUsed := s₂.slotsUsed }
      rw [State.setFrames_self ht]
    subst hg
    refine Or.inr ⟨q, ⟨(({ U with heap := s₂.heap, slotsUsed := s₂.slotsUsed } : State).setVm s₂.vm), Ls ++ L, c0 + mc, s0 + ms⟩,
      ⟨X.admits, X.cas, X.clock, X.frames, X.room, X.hears, X.method, X.code, (X.here.setHeapUsed s₂.heap s₂.slotsUsed).setVm hW'.alike, X.tail, State.WarmedH.trans X.warmed hW', X.limits, X.bytes, X.same.trans (hsame.setVm s.vm)⟩,
      ⟨g, mk, s₂, L, E, ce, rfl, rfl, hx, hce, hcv, hcl, rfl, hL, rfl, rfl⟩, ?_⟩
    show Steps p.tables e below _ (((({ U with heap := s₂.heap, slotsUsed := s₂.slotsUsed } : State).setVm s₂.vm).setTop g).pushFrame (.throwing q))
    rw [← hs₂]
    exact hsteps
end Payer
section Calls
variable {p : Program} {l : Launch} {e : Env} {R : Room} {s : State} {m : MethodId} {args : Array Value} {below : List Frame} {meth : Method} {c : Code} {T : State} {locs : List Loc} {cells slots : Nat}
theorem vx_callV (X : Stand p l e R s m args below meth c T locs cells slots) (hexec : p.tables.exec = Jvm.exec) {own C : String} {index : Nat} {y : MethodName} {bytes : ByteArray} {maxL : Nat} {ret : Option FieldType}
    (hown : s.vm.findClass own = some m.cls) (hlink : (Cond.methodLink own index y).before args s = true) (hinst : (Cond.instanceMethod y).before args s = true) (hsel : (Cond.selects C y y).before args s = true)
    (hcode : (Cond.code y bytes maxL ret).before args s = true) (hy : y.cls ≠ "java/lang/invoke/MethodHandle" ∧ y.cls ≠ "java/lang/invoke/VarHandle")
    {W9 : Nat} {Pre : Pt → Array Value → Prop} {Post : Pt → Array Value → Option Value → Pt → Prop} {PostX : Pt → Array Value → Addr → Pt → Prop} (hK : vx_Back l R p e below s args y 3 W9 Pre Post PostX)
    {b : Addr} {cellB : Cell} (hcell : T.heap[b]? = some cellB) (hobj : cellB.vm.isStatics = false) (hcls : s.vm.findClass C = some cellB.cls)
    {g : JFrame} (hg : g.method = m) (hsize : g.locals.size = c.maxLocals) {argsL rest : List Value} (hlen : ∀ sig, parseMethodDescriptor y.desc = some sig → argsL.length = sig.parameters.length)
    (hstack : g.stack = argsL.reverse ++ .ref b :: rest) (hW : 2 * g.monitorRoom + (rest.map fun v => v.category).sum ≤ W9) (hdg : decode c.code g.pc = .ok (.invokevirtual index, 3))
    (hpre : ∀ vm₁, s.WarmedH vm₁ → Pre ⟨T.setVm vm₁, locs, cells, slots⟩ (Value.ref b :: argsL).toArray) :
    (∃ (v : Option Value) (vm₁ : Vm) (B : Pt), s.WarmedH vm₁ ∧ Stand p l e R s m args below meth c B.U B.locs B.cells B.slots ∧ Post ⟨T.setVm vm₁, locs, cells, slots⟩ (Value.ref b :: argsL).toArray v B ∧
      ∀ target, Steps p.tables e below (B.U.setTop { g with pc := g.pc + 3, stack := v.toList ++ rest }) target → Steps p.tables e below (T.setTop g) target) ∨
    (∃ (q : Addr) (vm₁ : Vm) (B : Pt), s.WarmedH vm₁ ∧ Stand p l e R s m args below meth c B.U B.locs B.cells B.slots ∧ PostX ⟨T.setVm vm₁, locs, cells, slots⟩ (Value.ref b :: argsL).toArray q B ∧
      Steps p.tables e below (T.setTop g) ((B.U.setTop { g with stack := rest }).pushFrame (.throwing q))) := by
  obtain ⟨mk, methM, hnamed, hmethM, hstM, habM⟩ := Cond.instanceMethod_spec hinst
  obtain ⟨methM', cM, hmethM', -, -, -, -, -, -, hsigM⟩ := Cond.code_spec hnamed hcode
  cases hmethM.symm.trans hmethM'
  obtain ⟨c2, r2, m2, q1, q2, q3, q4, kP, hkP, hkPi⟩ := Cond.selects_spec hsel
  cases hcls.symm.trans q1
  cases (State.methodFound?_of_named hnamed hy).symm.trans q2
  cases hnamed.symm.trans q3
  have hselP : selectMethod e.platform s.vm cellB.cls mk = .method mk := by rw [Launch.admits_selectMethod X.admits]; exact q4
  obtain ⟨vm₁, X₁, hstep₁⟩ := X.invokevirtual hexec hown hlink hnamed hmethM hstM hkP hkPi hy (a := b) (cell := cellB) hcell
    (fun z h => by rw [h] at hobj; cases hobj) hselP hmethM habM hkP hkPi (g := g) hg (argsL := argsL) (rest := rest) (hlen _ hsigM) hstack hdg
  rcases hK m meth c ⟨T.setVm vm₁, locs, cells, slots⟩ { g with stack := rest } (.invokevirtual index) mk (Value.ref b :: argsL).toArray X₁ hg hsize hdg hW (X₁.named hnamed) (hpre vm₁ X₁.warmed) with ⟨v, B, X', hpost, hsteps⟩ | ⟨q, B, X', hpost, hsteps⟩
  · exact Or.inl ⟨v, vm₁, B, X₁.warmed, X', hpost, fun target h => hstep₁ _ fun acts => by rw [doInvoke_state]; exact hsteps.trans h⟩
  · exact Or.inr ⟨q, vm₁, B, X₁.warmed, X', hpost, hstep₁ _ fun acts => by rw [doInvoke_state]; exact hsteps⟩
theorem vx_callS (X : Stand p l e R s m args below meth c T locs cells slots) (hexec : p.tables.exec = Jvm.exec) {own : String} {index : Nat} {y : MethodName} {bytes : ByteArray} {maxL : Nat} {ret : Option FieldType}
    (hown : s.vm.findClass own = some m.cls) (hlink : (Cond.methodLink own index y).before args s = true) (hstat : (Cond.static y).before args s = true) (hinit : (Cond.initialized y.cls).before args s = true)
    (hcode : (Cond.code y bytes maxL ret).before args s = true) (hy : y.cls ≠ "java/lang/invoke/MethodHandle" ∧ y.cls ≠ "java/lang/invoke/VarHandle")
    {W9 : Nat} {Pre : Pt → Array Value → Prop} {Post : Pt → Array Value → Option Value → Pt → Prop} {PostX : Pt → Array Value → Addr → Pt → Prop} (hK : vx_Back l R p e below s args y 3 W9 Pre Post PostX)
    {g : JFrame} (hg : g.method = m) (hsize : g.locals.size = c.maxLocals) {argsL rest : List Value} (hlen : ∀ sig, parseMethodDescriptor y.desc = some sig → argsL.length = sig.parameters.length)
    (hstack : g.stack = argsL.reverse ++ rest) (hW : 2 * g.monitorRoom + (rest.map fun v => v.category).sum ≤ W9) (hdg : decode c.code g.pc = .ok (.invokestatic index, 3))
    (hpre : ∀ vm₁, s.WarmedH vm₁ → Pre ⟨T.setVm vm₁, locs, cells, slots⟩ argsL.toArray) :
    (∃ (v : Option Value) (vm₁ : Vm) (B : Pt), s.WarmedH vm₁ ∧ Stand p l e R s m args below meth c B.U B.locs B.cells B.slots ∧ Post ⟨T.setVm vm₁, locs, cells, slots⟩ argsL.toArray v B ∧
      ∀ target, Steps p.tables e below (B.U.setTop { g with pc := g.pc + 3, stack := v.toList ++ rest }) target → Steps p.tables e below (T.setTop g) target) ∨
    (∃ (q : Addr) (vm₁ : Vm) (B : Pt), s.WarmedH vm₁ ∧ Stand p l e R s m args below meth c B.U B.locs B.cells B.slots ∧ PostX ⟨T.setVm vm₁, locs, cells, slots⟩ argsL.toArray q B ∧
      Steps p.tables e below (T.setTop g) ((B.U.setTop { g with stack := rest }).pushFrame (.throwing q))) := by
  obtain ⟨mk, hnamed⟩ := Cond.code_named hcode
  obtain ⟨methM, cM, hmethM, -, -, -, -, -, -, hsigM⟩ := Cond.code_spec hnamed hcode
  have hstatic : methM.isStatic = true := Cond.static_spec hnamed hmethM hstat
  obtain ⟨kP, hkP, -⟩ := className_of_methodNamed hnamed
  have hinitP : kP.init = .initialized := Cond.initialized_spec (findClass_of_methodNamed hnamed) hkP hinit
  obtain ⟨vm₁, X₁, hstep₁⟩ := X.invokestatic hexec hown hlink hnamed hmethM hstatic hkP hinitP hy (g := g) hg (argsL := argsL) (rest := rest) (hlen _ hsigM) hstack hdg
  rcases hK m meth c ⟨T.setVm vm₁, locs, cells, slots⟩ { g with stack := rest } (.invokestatic index) mk argsL.toArray X₁ hg hsize hdg hW (X₁.named hnamed) (hpre vm₁ X₁.warmed) with ⟨v, B, X', hpost, hsteps⟩ | ⟨q, B, X', hpost, hsteps⟩
  · exact Or.inl ⟨v, vm₁, B, X₁.warmed, X', hpost, fun target h => hstep₁ _ fun acts => by rw [doInvoke_state]; exact hsteps.trans h⟩
  · exact Or.inr ⟨q, vm₁, B, X₁.warmed, X', hpost, hstep₁ _ fun acts => by rw [doInvoke_state]; exact hsteps⟩
end Calls
theorem vx_cls {s : State} {T : State} {vm₁ : Vm} {E : String} {k : ClassId} (hW : s.WarmedH vm₁) (h : (T.setVm vm₁).vm.findClass E = some k) : s.vm.findClass E = some k := by
  have h1 : vm₁.findClass E = some k := h
  rw [hW.alike.findClass] at h1
  exact h1
/-- the method's frame g, with q thrown over it -/
def vx_W (p : Program) (l : Launch) (e : Env) (R : Room) (s : State) (m : MethodId) (args : Array Value) (below : List Frame) (meth : Method) (c : Code) (H : Heap) (locs : List Loc) (cells slots : Nat) (Q : State → Prop) (g : JFrame) (q : Addr) : Prop :=
  ∀ T : State, T.heap = H → Stand p l e R s m args below meth c T locs cells slots → ∃ t, Steps p.tables e below ((T.setTop g).pushFrame (.throwing q)) t ∧ Q t
def vx_Run (p : Program) (l : Launch) (e : Env) (R : Room) (s : State) (m : MethodId) (args : Array Value) (below : List Frame) (meth : Method) (c : Code) (H : Heap) (locs : List Loc) (cells slots mc ms : Nat) (g : JFrame) (rest : List Value) (Qa : State → Outcome → State → Prop) (XC : String → State → State → Prop) (free : Addr → Prop) : Prop :=
  ∀ T : State, T.heap = H → Stand p l e R s m args below meth c T locs cells slots →
    (∃ (v : Option Value) (st₀ t T' : State) (L : List Loc), st₀.heap = H ∧ Stand p l e R s m args below meth c T' (locs ++ L) (cells + mc) (slots + ms) ∧ (∀ q ∈ L, free q.base) ∧ T'.heap = t.heap ∧ T'.vm = t.vm ∧ Qa st₀ (.returned v) t ∧
      Goes p e below T g T' { g with pc := g.pc + 3, stack := v.toList ++ rest }) ∨
    (∃ (q : Addr) (st₀ t T' : State) (L : List Loc) (E : String) (ce : Cell), st₀.heap = H ∧ Stand p l e R s m args below meth c T' (locs ++ L) (cells + mc) (slots + ms) ∧ (∀ z ∈ L, free z.base) ∧ T'.heap = t.heap ∧ T'.vm = t.vm ∧ XC E st₀ t ∧ t.heap[q]? = some ce ∧ ce.vm = .none ∧ s.vm.findClass E = some ce.cls ∧
      Steps p.tables e below (T.setTop g) ((T'.setTop { g with stack := rest }).pushFrame (.throwing q)))
def vx_X {S : Type} (px : S → Prop) (B : String → S → State → Prop) (A : Nat → Prop) : String → State → State → Prop := fun E st t => ∃ u : S, px u ∧ B E u t ∧ va_F A st t
section Runs
variable {p : Program} {l : Launch} {e : Env} {R : Room} {s : State} {m : MethodId} {args : Array Value} {below : List Frame} {meth : Method} {c : Code} {H : Heap} {locs : List Loc} {cells slots : Nat}
variable {y : MethodName} {bytes cc : ByteArray} {maxL nL mc ms n index : Nat} {ret : Option FieldType} {ws : List Cond} {rm : Room} {Pc : Array Value → State → Prop} {Qc : Array Value → State → Outcome → State → Prop} {XC : String → State → State → Prop} {free : Addr → Prop} {Ts : List Cond} {own C : String} {b : Addr} {As rest : List Value} {g : JFrame}
theorem vx_callBack (cb : CallB R s args own index y bytes maxL ret ws rm mc ms n) (hM : vx_Met l y ws rm Pc Qc XC mc ms free) (hbl : FrameBlind Pc) : vx_Back l R p e below s args y 3 8 (PreOf R mc ms Pc) (PostOf Qc mc ms free) (vx_Post XC mc ms free) := by
  obtain ⟨hrc, hrs, hfr, hlo, hws, hcw, -, hini, -⟩ := cb
  exact vx_back (bytes := bytes) (maxL := maxL) (ret := ret) hM hbl hrc hrs hfr hlo hws hcw (fun a' U hW => word_at hW (Or.inl (by first | rfl | simp [Cond.onTables, Cond.keeps, Cond.steady])) hini)
theorem vx_runV (S : CallFix p m c cc nL s args Ts own) (hM : vx_Met l y ws rm Pc Qc XC mc ms free) (cw : CallW R s args own C index y bytes maxL ret ws rm mc ms n) (hp : PreV s H C b Pc As)
    (hg : g.method = m) (hn : As.length = n) (hsize : g.locals.size = nL) (hstack : g.stack = As.reverse ++ .ref b :: rest) (hW : 2 * g.monitorRoom + (rest.map fun v => v.category).sum ≤ 8) (hdg : decode cc g.pc = .ok (.invokevirtual index, 3)) (hf : cells + mc ≤ R.cells ∧ slots + ms ≤ R.slots) :
    vx_Run p l e R s m args below meth c H locs cells slots mc ms g rest (Qc (Value.ref b :: As).toArray) XC free := by
  have hK : vx_Back l R p e below s args y 3 8 (PreOf R mc ms Pc) (PostOf Qc mc ms free) (vx_Post XC mc ms free) := vx_callBack cw.1 hM hp.1
  obtain ⟨⟨-, -, -, -, -, -, hcode, -, hy, hlen, hl⟩, hin, hse⟩ := cw
  obtain ⟨hx, hb, hml, ho, -⟩ := S
  obtain ⟨-, ⟨cellB, hcB, hoB, hclB⟩, hPc⟩ := hp
  intro T hT X
  rcases vx_callV X hx (C := C) (bytes := bytes) (maxL := maxL) (ret := ret) ho hl hin hse hcode hy hK (by rw [hT]; exact hcB) hoB hclB hg (hsize.trans hml.symm) (argsL := As) (rest := rest) (fun sig h => hn.trans (hlen sig h)) hstack hW (by rw [hb]; exact hdg)
    (fun vm₁ hW₁ => ⟨hf.1, hf.2, hPc (T.setVm vm₁) hT hW₁⟩) with ⟨v, vm₁, ⟨U', l2, c2, s2⟩, hW₁, X', ⟨g', mk, t, L, e1, e2, hq, h1, hL, h2, h3⟩, st⟩ | ⟨q, vm₁, ⟨U', l2, c2, s2⟩, hW₁, X', ⟨g', mk, t, L, E, ce, e1, e2, hq, hce, hcv, hcl, h1, hL, h2, h3⟩, st⟩
  · dsimp only [Pt.U, Pt.locs, Pt.cells, Pt.slots] at X' e1 e2 h1 h2 h3 st
    subst h1; subst h2; subst h3
    exact Or.inl ⟨v, (T.setVm vm₁).calling g' mk (Value.ref b :: As).toArray, t, U', L, hT, X', hL, e1, e2, hq, st⟩
  · dsimp only [Pt.U, Pt.locs, Pt.cells, Pt.slots] at X' e1 e2 h1 h2 h3 st hcl
    subst h1; subst h2; subst h3
    exact Or.inr ⟨q, (T.setVm vm₁).calling g' mk (Value.ref b :: As).toArray, t, U', L, E, ce, hT, X', hL, e1, e2, hq, hce, hcv, vx_cls hW₁ hcl, st⟩
theorem vx_runS (S : CallFix p m c cc nL s args Ts own) (hM : vx_Met l y ws rm Pc Qc XC mc ms free) (cw : CallB R s args own index y bytes maxL ret ws rm mc ms n ∧ (Cond.static y).before args s = true) (hp : PreS s H Pc As)
    (hg : g.method = m) (hn : As.length = n) (hsize : g.locals.size = nL) (hstack : g.stack = As.reverse ++ rest) (hW : 2 * g.monitorRoom + (rest.map fun v => v.category).sum ≤ 8) (hdg : decode cc g.pc = .ok (.invokestatic index, 3)) (hf : cells + mc ≤ R.cells ∧ slots + ms ≤ R.slots) :
    vx_Run p l e R s m args below meth c H locs cells slots mc ms g rest (Qc As.toArray) XC free := by
  have hK : vx_Back l R p e below s args y 3 8 (PreOf R mc ms Pc) (PostOf Qc mc ms free) (vx_Post XC mc ms free) := vx_callBack cw.1 hM hp.1
  obtain ⟨⟨-, -, -, -, -, -, hcode, hini, hy, hlen, hl⟩, hstt⟩ := cw
  obtain ⟨hx, hb, hml, ho, -⟩ := S
  intro T hT X
  rcases vx_callS X hx (bytes := bytes) (maxL := maxL) (ret := ret) ho hl hstt hini hcode hy hK hg (hsize.trans hml.symm) (argsL := As) (rest := rest) (fun sig h => hn.trans (hlen sig h)) hstack hW (by rw [hb]; exact hdg)
    (fun vm₁ hW₁ => ⟨hf.1, hf.2, hp.2 (T.setVm vm₁) hT hW₁⟩) with ⟨v, vm₁, ⟨U', l2, c2, s2⟩, hW₁, X', ⟨g', mk, t, L, e1, e2, hq, h1, hL, h2, h3⟩, st⟩ | ⟨q, vm₁, ⟨U', l2, c2, s2⟩, hW₁, X', ⟨g', mk, t, L, E, ce, e1, e2, hq, hce, hcv, hcl, h1, hL, h2, h3⟩, st⟩
  · dsimp only [Pt.U, Pt.locs, Pt.cells, Pt.slots] at X' e1 e2 h1 h2 h3 st
    subst h1; subst h2; subst h3
    exact Or.inl ⟨v, (T.setVm vm₁).calling g' mk As.toArray, t, U', L, hT, X', hL, e1, e2, hq, st⟩
  · dsimp only [Pt.U, Pt.locs, Pt.cells, Pt.slots] at X' e1 e2 h1 h2 h3 st hcl
    subst h1; subst h2; subst h3
    exact Or.inr ⟨q, (T.setVm vm₁).calling g' mk As.toArray, t, U', L, E, ce, hT, X', hL, e1, e2, hq, hce, hcv, vx_cls hW₁ hcl, st⟩
end Runs
section Rows
variable {p : Program} {l : Launch} {e : Env} {R : Room} {s : State} {m : MethodId} {args : Array Value} {below : List Frame} {meth : Method} {c : Code} {H : Heap} {locs : List Loc} {cells slots : Nat} {Q : State → Prop}
variable {mc ms : Nat} {free : Addr → Prop} {A0 A1 : Nat → Prop} {H0 : Heap} {a : Array Value} {pc : Nat} {ls : Array Slot} {st0 rest : List Value}
theorem vx_keep {st₀ t T' : State} {L : List Loc} (h0 : st₀.heap = H) (e1 : T'.heap = t.heap) (hS : va_S A0 H0 H locs) (hA : ∀ q, q < H.size → A1 q → A0 q) (hf : ∀ q, free q → A0 q) (hL : ∀ q ∈ L, free q.base) (hF : va_F A1 st₀ t) :
    H.size ≤ T'.heap.size ∧ (∀ q : Nat, q < H.size → ¬ A1 q → T'.heap[q]? = H[q]?) ∧ va_S A0 H0 T'.heap (locs ++ L) := by
  obtain ⟨hz, hk⟩ := hF
  rw [h0] at hz hk
  exact ⟨by rw [e1]; exact hz, fun q h1 h2 => by rw [e1]; exact hk q h1 h2,
    ⟨Nat.le_trans hS.1 (by rw [e1]; exact hz), fun q h1 h2 => by rw [e1, hk q (Nat.lt_of_lt_of_le h1 hS.1) (fun z => h2 (hA q (Nat.lt_of_lt_of_le h1 hS.1) z))]; exact hS.2.1 q h1 h2, fun q hq => by
      rcases List.mem_append.mp hq with h | h
      · exact hS.2.2 q h
      · exact hf _ (hL q h)⟩⟩
theorem vx_calli {S SX : Type} {post : Int32 → S → Prop} {px : SX → Prop} {B : S → State → Prop} {BX : String → SX → State → Prop} {AX : Nat → Prop} (hr : vx_Run p l e R s m args below meth c H locs cells slots mc ms (F0 m pc ls st0) rest (va_Qi post B A1 a) (vx_X px BX AX) free) (hS : va_S A0 H0 H locs) (hA : ∀ q, q < H.size → A1 q → A0 q) (hf : ∀ q, free q → A0 q) (hAX : ∀ q, q < H.size → AX q → A0 q)
    (kx : ∀ (E : String) (ce : Cell) (q9 : Addr) (u : SX) (t : State) (H1 : Heap) (locs1 : List Loc), t.heap = H1 → s.vm.Alike t.vm → px u → BX E u t → H.size ≤ H1.size → (∀ q : Nat, q < H.size → ¬ AX q → H1[q]? = H[q]?) → va_S A0 H0 H1 locs1 → H1[q9]? = some ce → ce.vm = .none → s.vm.findClass E = some ce.cls → vx_W p l e R s m args below meth c H1 locs1 (cells + mc) (slots + ms) Q (F0 m pc ls rest) q9)
    (kk : ∀ (r : Int32) (u : S) (t : State) (H1 : Heap) (locs1 : List Loc), t.heap = H1 → s.vm.Alike t.vm → post r u → B u t → H.size ≤ H1.size → (∀ q : Nat, q < H.size → ¬ A1 q → H1[q]? = H[q]?) → va_S A0 H0 H1 locs1 → W p l e R s m args below meth c H1 locs1 (cells + mc) (slots + ms) Q (F0 m (pc + 3) ls (.int r :: rest))) : W p l e R s m args below meth c H locs cells slots Q (F0 m pc ls st0) := by
  intro T hT X
  rcases hr T hT X with ⟨v, st₀, t, T', L, h0, X', hL, e1, e2, ⟨⟨r, u, hv, hp, hb⟩, hF⟩, st⟩ | ⟨q, st₀, t, T', L, E, ce, h0, X', hL, e1, e2, ⟨u, hp, hb, hF⟩, hce, hcv, hcl, st⟩
  · cases hv
    obtain ⟨k1, k2, k3⟩ := vx_keep h0 e1 hS hA hf hL hF
    obtain ⟨t2, a1, b1⟩ := kk r u t T'.heap (locs ++ L) e1.symm (by rw [← e2]; exact X'.warmed.alike) hp hb k1 k2 k3 T' rfl X'
    exact ⟨t2, st t2 a1, b1⟩
  · obtain ⟨k1, k2, k3⟩ := vx_keep h0 e1 hS hAX hf hL hF
    obtain ⟨t2, a1, b1⟩ := kx E ce q u t T'.heap (locs ++ L) e1.symm (by rw [← e2]; exact X'.warmed.alike) hp hb k1 k2 k3 (by rw [e1]; exact hce) hcv hcl T' rfl X'
    exact ⟨t2, st.trans a1, b1⟩
theorem vx_calll {S SX : Type} {post : Int64 → S → Prop} {px : SX → Prop} {B : S → State → Prop} {BX : String → SX → State → Prop} {AX : Nat → Prop} (hr : vx_Run p l e R s m args below meth c H locs cells slots mc ms (F0 m pc ls st0) rest (va_Ql post B A1 a) (vx_X px BX AX) free) (hS : va_S A0 H0 H locs) (hA : ∀ q, q < H.size → A1 q → A0 q) (hf : ∀ q, free q → A0 q) (hAX : ∀ q, q < H.size → AX q → A0 q)
    (kx : ∀ (E : String) (ce : Cell) (q9 : Addr) (u : SX) (t : State) (H1 : Heap) (locs1 : List Loc), t.heap = H1 → s.vm.Alike t.vm → px u → BX E u t → H.size ≤ H1.size → (∀ q : Nat, q < H.size → ¬ AX q → H1[q]? = H[q]?) → va_S A0 H0 H1 locs1 → H1[q9]? = some ce → ce.vm = .none → s.vm.findClass E = some ce.cls → vx_W p l e R s m args below meth c H1 locs1 (cells + mc) (slots + ms) Q (F0 m pc ls rest) q9)
    (kk : ∀ (r : Int64) (u : S) (t : State) (H1 : Heap) (locs1 : List Loc), t.heap = H1 → s.vm.Alike t.vm → post r u → B u t → H.size ≤ H1.size → (∀ q : Nat, q < H.size → ¬ A1 q → H1[q]? = H[q]?) → va_S A0 H0 H1 locs1 → W p l e R s m args below meth c H1 locs1 (cells + mc) (slots + ms) Q (F0 m (pc + 3) ls (.long r :: rest))) : W p l e R s m args below meth c H locs cells slots Q (F0 m pc ls st0) := by
  intro T hT X
  rcases hr T hT X with ⟨v, st₀, t, T', L, h0, X', hL, e1, e2, ⟨⟨r, u, hv, hp, hb⟩, hF⟩, st⟩ | ⟨q, st₀, t, T', L, E, ce, h0, X', hL, e1, e2, ⟨u, hp, hb, hF⟩, hce, hcv, hcl, st⟩
  · cases hv
    obtain ⟨k1, k2, k3⟩ := vx_keep h0 e1 hS hA hf hL hF
    obtain ⟨t2, a1, b1⟩ := kk r u t T'.heap (locs ++ L) e1.symm (by rw [← e2]; exact X'.warmed.alike) hp hb k1 k2 k3 T' rfl X'
    exact ⟨t2, st t2 a1, b1⟩
  · obtain ⟨k1, k2, k3⟩ := vx_keep h0 e1 hS hAX hf hL hF
    obtain ⟨t2, a1, b1⟩ := kx E ce q u t T'.heap (locs ++ L) e1.symm (by rw [← e2]; exact X'.warmed.alike) hp hb k1 k2 k3 (by rw [e1]; exact hce) hcv hcl T' rfl X'
    exact ⟨t2, st.trans a1, b1⟩
theorem vx_callf {S SX : Type} {post : UInt32 → S → Prop} {px : SX → Prop} {B : S → State → Prop} {BX : String → SX → State → Prop} {AX : Nat → Prop} (hr : vx_Run p l e R s m args below meth c H locs cells slots mc ms (F0 m pc ls st0) rest (va_Qf post B A1 a) (vx_X px BX AX) free) (hS : va_S A0 H0 H locs) (hA : ∀ q, q < H.size → A1 q → A0 q) (hf : ∀ q, free q → A0 q) (hAX : ∀ q, q < H.size → AX q → A0 q)
    (kx : ∀ (E : String) (ce : Cell) (q9 : Addr) (u : SX) (t : State) (H1 : Heap) (locs1 : List Loc), t.heap = H1 → s.vm.Alike t.vm → px u → BX E u t → H.size ≤ H1.size → (∀ q : Nat, q < H.size → ¬ AX q → H1[q]? = H[q]?) → va_S A0 H0 H1 locs1 → H1[q9]? = some ce → ce.vm = .none → s.vm.findClass E = some ce.cls → vx_W p l e R s m args below meth c H1 locs1 (cells + mc) (slots + ms) Q (F0 m pc ls rest) q9)
    (kk : ∀ (r : UInt32) (u : S) (t : State) (H1 : Heap) (locs1 : List Loc), t.heap = H1 → s.vm.Alike t.vm → post r u → B u t → H.size ≤ H1.size → (∀ q : Nat, q < H.size → ¬ A1 q → H1[q]? = H[q]?) → va_S A0 H0 H1 locs1 → W p l e R s m args below meth c H1 locs1 (cells + mc) (slots + ms) Q (F0 m (pc + 3) ls (.float r :: rest))) : W p l e R s m args below meth c H locs cells slots Q (F0 m pc ls st0) := by
  intro T hT X
  rcases hr T hT X with ⟨v, st₀, t, T', L, h0, X', hL, e1, e2, ⟨⟨r, u, hv, hp, hb⟩, hF⟩, st⟩ | ⟨q, st₀, t, T', L, E, ce, h0, X', hL, e1, e2, ⟨u, hp, hb, hF⟩, hce, hcv, hcl, st⟩
  · cases hv
    obtain ⟨k1, k2, k3⟩ := vx_keep h0 e1 hS hA hf hL hF
    obtain ⟨t2, a1, b1⟩ := kk r u t T'.heap (locs ++ L) e1.symm (by rw [← e2]; exact X'.warmed.alike) hp hb k1 k2 k3 T' rfl X'
    exact ⟨t2, st t2 a1, b1⟩
  · obtain ⟨k1, k2, k3⟩ := vx_keep h0 e1 hS hAX hf hL hF
    obtain ⟨t2, a1, b1⟩ := kx E ce q u t T'.heap (locs ++ L) e1.symm (by rw [← e2]; exact X'.warmed.alike) hp hb k1 k2 k3 (by rw [e1]; exact hce) hcv hcl T' rfl X'
    exact ⟨t2, st.trans a1, b1⟩
theorem vx_calld {S SX : Type} {post : UInt64 → S → Prop} {px : SX → Prop} {B : S → State → Prop} {BX : String → SX → State → Prop} {AX : Nat → Prop} (hr : vx_Run p l e R s m args below meth c H locs cells slots mc ms (F0 m pc ls st0) rest (va_Qd post B A1 a) (vx_X px BX AX) free) (hS : va_S A0 H0 H locs) (hA : ∀ q, q < H.size → A1 q → A0 q) (hf : ∀ q, free q → A0 q) (hAX : ∀ q, q < H.size → AX q → A0 q)
    (kx : ∀ (E : String) (ce : Cell) (q9 : Addr) (u : SX) (t : State) (H1 : Heap) (locs1 : List Loc), t.heap = H1 → s.vm.Alike t.vm → px u → BX E u t → H.size ≤ H1.size → (∀ q : Nat, q < H.size → ¬ AX q → H1[q]? = H[q]?) → va_S A0 H0 H1 locs1 → H1[q9]? = some ce → ce.vm = .none → s.vm.findClass E = some ce.cls → vx_W p l e R s m args below meth c H1 locs1 (cells + mc) (slots + ms) Q (F0 m pc ls rest) q9)
    (kk : ∀ (r : UInt64) (u : S) (t : State) (H1 : Heap) (locs1 : List Loc), t.heap = H1 → s.vm.Alike t.vm → post r u → B u t → H.size ≤ H1.size → (∀ q : Nat, q < H.size → ¬ A1 q → H1[q]? = H[q]?) → va_S A0 H0 H1 locs1 → W p l e R s m args below meth c H1 locs1 (cells + mc) (slots + ms) Q (F0 m (pc + 3) ls (.double r :: rest))) : W p l e R s m args below meth c H locs cells slots Q (F0 m pc ls st0) := by
  intro T hT X
  rcases hr T hT X with ⟨v, st₀, t, T', L, h0, X', hL, e1, e2, ⟨⟨r, u, hv, hp, hb⟩, hF⟩, st⟩ | ⟨q, st₀, t, T', L, E, ce, h0, X', hL, e1, e2, ⟨u, hp, hb, hF⟩, hce, hcv, hcl, st⟩
  · cases hv
    obtain ⟨k1, k2, k3⟩ := vx_keep h0 e1 hS hA hf hL hF
    obtain ⟨t2, a1, b1⟩ := kk r u t T'.heap (locs ++ L) e1.symm (by rw [← e2]; exact X'.warmed.alike) hp hb k1 k2 k3 T' rfl X'
    exact ⟨t2, st t2 a1, b1⟩
  · obtain ⟨k1, k2, k3⟩ := vx_keep h0 e1 hS hAX hf hL hF
    obtain ⟨t2, a1, b1⟩ := kx E ce q u t T'.heap (locs ++ L) e1.symm (by rw [← e2]; exact X'.warmed.alike) hp hb k1 k2 k3 (by rw [e1]; exact hce) hcv hcl T' rfl X'
    exact ⟨t2, st.trans a1, b1⟩
theorem vx_callv {S SX : Type} {post : S → Prop} {px : SX → Prop} {B : S → State → Prop} {BX : String → SX → State → Prop} {AX : Nat → Prop} (hr : vx_Run p l e R s m args below meth c H locs cells slots mc ms (F0 m pc ls st0) rest (va_Qv post B A1 a) (vx_X px BX AX) free) (hS : va_S A0 H0 H locs) (hA : ∀ q, q < H.size → A1 q → A0 q) (hf : ∀ q, free q → A0 q) (hAX : ∀ q, q < H.size → AX q → A0 q)
    (kx : ∀ (E : String) (ce : Cell) (q9 : Addr) (u : SX) (t : State) (H1 : Heap) (locs1 : List Loc), t.heap = H1 → s.vm.Alike t.vm → px u → BX E u t → H.size ≤ H1.size → (∀ q : Nat, q < H.size → ¬ AX q → H1[q]? = H[q]?) → va_S A0 H0 H1 locs1 → H1[q9]? = some ce → ce.vm = .none → s.vm.findClass E = some ce.cls → vx_W p l e R s m args below meth c H1 locs1 (cells + mc) (slots + ms) Q (F0 m pc ls rest) q9)
    (kk : ∀ (u : S) (t : State) (H1 : Heap) (locs1 : List Loc), t.heap = H1 → s.vm.Alike t.vm → post u → B u t → H.size ≤ H1.size → (∀ q : Nat, q < H.size → ¬ A1 q → H1[q]? = H[q]?) → va_S A0 H0 H1 locs1 → W p l e R s m args below meth c H1 locs1 (cells + mc) (slots + ms) Q (F0 m (pc + 3) ls (rest))) : W p l e R s m args below meth c H locs cells slots Q (F0 m pc ls st0) := by
  intro T hT X
  rcases hr T hT X with ⟨v, st₀, t, T', L, h0, X', hL, e1, e2, ⟨⟨u, hv, hp, hb⟩, hF⟩, st⟩ | ⟨q, st₀, t, T', L, E, ce, h0, X', hL, e1, e2, ⟨u, hp, hb, hF⟩, hce, hcv, hcl, st⟩
  · cases hv
    obtain ⟨k1, k2, k3⟩ := vx_keep h0 e1 hS hA hf hL hF
    obtain ⟨t2, a1, b1⟩ := kk u t T'.heap (locs ++ L) e1.symm (by rw [← e2]; exact X'.warmed.alike) hp hb k1 k2 k3 T' rfl X'
    exact ⟨t2, st t2 a1, b1⟩
  · obtain ⟨k1, k2, k3⟩ := vx_keep h0 e1 hS hAX hf hL hF
    obtain ⟨t2, a1, b1⟩ := kx E ce q u t T'.heap (locs ++ L) e1.symm (by rw [← e2]; exact X'.warmed.alike) hp hb k1 k2 k3 (by rw [e1]; exact hce) hcv hcl T' rfl X'
    exact ⟨t2, st.trans a1, b1⟩
/-- caught by the row x of this method's table; the rows ahead don't take it -/
theorem vx_catch {own name : String} {E : String} {ce : Cell} {q : Addr} (hown : s.vm.findClass own = some m.cls) (pre : List ExceptionTableEntry) (x : ExceptionTableEntry) (suf : List ExceptionTableEntry) (hsplit : c.exceptionTable.toList = pre ++ x :: suf)
    (hpass : ∀ z ∈ pre, covers z pc = false ∨ (z.catchType ≠ 0 ∧ ∃ nm : String, (Cond.classLink own z.catchType nm).before args s = true ∧ va_Nc E nm s)) (hx : covers x pc = true) (h0 : x.catchType ≠ 0)
    (hlink : (Cond.classLink own x.catchType name).before args s = true) (hcast : (Cond.castable E name).before args s = true) (hcell : H[q]? = some ce) (hv : ce.vm = .none) (hcl : s.vm.findClass E = some ce.cls)
    (kk : W p l e R s m args below meth c H locs cells slots Q (F0 m x.handlerPc ls [.ref q])) : vx_W p l e R s m args below meth c H locs cells slots Q (F0 m pc ls rest) q := by
  intro T hT X
  have hpl : e.platform.magicAccessors = ({} : Platform).magicAccessors := by rw [X.admits.platform]
  obtain ⟨c3, c4, hc3, hc4, hasg⟩ := Cond.castable_spec hcast
  cases Option.some.inj (hc3.symm.trans hcl)
  obtain ⟨c5, hc5, hcl5⟩ := Cond.classLink_spec hown hlink e.platform hpl
  cases Option.some.inj (hc4.symm.trans hc5)
  obtain ⟨vm', X', st⟩ := X.thenCaughtThrough q (g := F0 m pc ls rest) rfl (Steps.refl _) (by rw [hT]; exact hcell) (by rw [hv]; rfl) (by obtain ⟨k9, h9, -⟩ := Vm.findClass_spec hcl; exact ⟨k9, h9⟩) pre x suf hsplit
    (fun z hz => by
      rcases hpass z hz with h | ⟨hz0, nm, hl1, hn1⟩
      · exact Or.inl h
      · obtain ⟨c6, hc6, hcl6⟩ := Cond.classLink_spec hown hl1 e.platform hpl
        obtain ⟨a8, b8, h1, h2, h3⟩ := hn1
        cases Option.some.inj (h1.symm.trans hcl)
        cases Option.some.inj (h2.symm.trans hc6)
        exact Or.inr ⟨hz0, _, hcl6, h3⟩) hx (Or.inr ⟨h0, c4, hcl5, hasg⟩)
  obtain ⟨t, a1, b1⟩ := kk (T.setVm vm') hT X'
  exact ⟨t, st.trans a1, b1⟩
end Rows
section Ends
variable {p : Program} {l : Launch} {e : Env} {R : Room} {s : State} {m : MethodId} {args : Array Value} {below : List Frame} {meth : Method} {c : Code} {H : Heap} {locs : List Loc} {cells slots : Nat} {Q : State → Prop}
variable {mc ms : Nat} {free : Addr → Prop} {A0 A1 : Nat → Prop} {H0 : Heap} {a : Array Value} {ls : Array Slot} {st0 rest : List Value}
variable {Qc : Array Value → State → Outcome → State → Prop} {XC : String → State → State → Prop}
/-- what a body that may throw owes at its end -/
def vx_MQ (below : List Frame) (Qc : Array Value → State → Outcome → State → Prop) (XC : String → State → State → Prop) (a : Array Value) (s : State) (mc ms : Nat) (free : Addr → Prop) : State → Prop := fun t =>
  ∃ o, t.status = .running ∧ Ended t below o ∧ vx_Q Qc XC mc ms free a s o t
theorem vx_ret {g : JFrame} {mc ms : Nat} (k : W p l e R s m args below meth c H locs cells slots (MQ below Qc args s mc ms free) g) : W p l e R s m args below meth c H locs cells slots (vx_MQ below Qc XC args s mc ms free) g := by
  intro T hT X
  obtain ⟨t, a1, o, b1, b2, b3, b4⟩ := k T hT X
  exact ⟨t, a1, o, b1, b2, Or.inl ⟨b3, b4⟩⟩
/-- not caught here: it goes on to the caller -/
theorem vx_widen {g : JFrame} {q : Addr} {k n : Nat} (h1 : cells ≤ k) (h2 : slots ≤ n) (kk : vx_W p l e R s m args below meth c H locs k n Q g q) : vx_W p l e R s m args below meth c H locs cells slots Q g q := fun T hT X => kk T hT (stand_widen X h1 h2)
theorem vx_out {pc : Nat} {E : String} {ce : Cell} {q : Addr} {mc ms : Nat} (hout : ∀ x ∈ c.exceptionTable.toList, covers x pc = false) (hlocks : meth.locks = false) (hcell : H[q]? = some ce) (hv : ce.vm = .none) (hcl : s.vm.findClass E = some ce.cls)
    (hx : ∀ t : State, t.heap = H → s.vm.Alike t.vm → XC E s t) (hf : ∀ z ∈ locs, free z.base) (hc : cells ≤ mc) (hs : slots ≤ ms) :
    vx_W p l e R s m args below meth c H locs cells slots (vx_MQ below Qc XC args s mc ms free) (F0 m pc ls rest) q := by
  intro T hT X
  obtain ⟨st1, hrun, hend, hW, hsm⟩ := X.leaveThrown q (g := F0 m pc ls rest) rfl rfl rfl hout hlocks
  have hcell9 : (T.setFrames (.throwing q :: below)).heap[q]? = some ce := by
    show T.heap[q]? = some ce
    rw [hT]; exact hcell
  exact ⟨_, st1, .threw q, hrun, hend, Or.inr ⟨q, rfl, E, ce, locs, hx _ hT hW.alike, hcell9, hv, hcl, hW, hsm.mono hc hs, hf⟩⟩
theorem vx_frame {U : State} {k n : Nat} (h : s.sameButNew ({ U with vm := s.vm } : State) locs k n) : s.heap.size ≤ U.heap.size ∧ ∀ q : Nat, q < s.heap.size → (∀ z ∈ locs, z.base ≠ q) → U.heap[q]? = s.heap[q]? := by
  obtain ⟨-, h2, -, -, -, h6⟩ := h
  refine ⟨h2, fun q hq hz => ?_⟩
  obtain ⟨c9, e1, e2, e3, e4⟩ := h6 q _ (Array.getElem?_eq_getElem hq)
  have hs : c9.slots = (s.heap[q]).slots := Array.ext_getElem? fun i => e4 i fun hm => hz _ hm rfl
  have h9 : c9 = s.heap[q] := by
    rw [hs] at e2
    exact e2
  have e5 : U.heap[q]? = some c9 := e1
  rw [e5, h9, Array.getElem?_eq_getElem hq]
/-- the words of a throw but the four that speak of the heap -/
def vx_no (w : Cond) : Bool := decide (w ≠ .isRef (.static Bundle.tN "UNASSIGNED_STACK" Bundle.steD)) && decide (w ≠ .isRef (.static Bundle.tN "SUPPRESSED_SENTINEL" Bundle.listD)) && decide (w ≠ .laysStatic Bundle.tN "UNASSIGNED_STACK" Bundle.steD) && decide (w ≠ .laysStatic Bundle.tN "SUPPRESSED_SENTINEL" Bundle.listD)
def vx_at0 (own : String) (ic : Nat) (X : String) (names : List String) : List Cond := (Bundle.ownAtoms0 own ic X names).filter vx_no
def vx_atS (own : String) (ic : Nat) (X : String) (names : List String) : List Cond := (Bundle.ownAtoms own ic X names).filter vx_no
/-- a word that the tables alone decide, or a good one -/
def vx_ot (w : Cond) : Bool := w.onTables || goodWord w
theorem vx_ot_at {args a' : Array Value} {s U : State} {w : Cond} (hW : s.WarmedH U.vm) (hvm : s.vm = U.vm) (hg : vx_ot w = true) (h : w.before args s = true) : w.before a' U = true := by
  simp only [vx_ot, Bool.or_eq_true] at hg
  rcases hg with hg | hg
  · exact va_tabs hg hvm h
  · exact word_at hW (good_of_word hg) h
/-- a list's words: the good ones out of the method's own list, the others by premises of their own -/
theorem vx_hat {args : Array Value} {s : State} {L B : List Cond} (h1 : ∀ w ∈ L.filter goodWord, w.before args s = true) (h2 : ∀ w ∈ L.filter (fun w => !goodWord w), w ∈ B) (h3 : ∀ w ∈ B, w.before args s = true) : ∀ w ∈ L, w.before args s = true := by
  intro w hw
  by_cases g : goodWord w = true
  · exact h1 w (List.mem_filter.mpr ⟨hw, g⟩)
  · refine h3 w (h2 w (List.mem_filter.mpr ⟨hw, ?_⟩))
    show (!goodWord w) = true
    cases hgw : goodWord w
    · rfl
    · exact absurd hgw g
theorem vx_c {args : Array Value} {s : State} {w : Cond} {B : List Cond} (h : w.before args s = true) (t : ∀ w ∈ B, w.before args s = true) : ∀ w' ∈ w :: B, w'.before args s = true := fun w' h' => (List.mem_cons.mp h').elim (fun e => by rw [e]; exact h) (t w')
theorem vx_n {args : Array Value} {s : State} : ∀ w ∈ ([] : List Cond), w.before args s = true := fun _ h => nomatch h
theorem vx_own {args : Array Value} {s : State} {L : List Cond} (h1 : ∀ w ∈ L.filter vx_no, w.before args s = true)
    (hU : (Cond.isRef (.static Bundle.tN "UNASSIGNED_STACK" Bundle.steD)).before args s = true) (hN : (Cond.isRef (.static Bundle.tN "SUPPRESSED_SENTINEL" Bundle.listD)).before args s = true)
    (lU : (Cond.laysStatic Bundle.tN "UNASSIGNED_STACK" Bundle.steD).before args s = true) (lN : (Cond.laysStatic Bundle.tN "SUPPRESSED_SENTINEL" Bundle.listD).before args s = true) : ∀ w ∈ L, w.before args s = true := by
  intro w hw
  by_cases e1 : w = .isRef (.static Bundle.tN "UNASSIGNED_STACK" Bundle.steD)
  · rw [e1]; exact hU
  · by_cases e2 : w = .isRef (.static Bundle.tN "SUPPRESSED_SENTINEL" Bundle.listD)
    · rw [e2]; exact hN
    · by_cases e3 : w = .laysStatic Bundle.tN "UNASSIGNED_STACK" Bundle.steD
      · rw [e3]; exact lU
      · by_cases e4 : w = .laysStatic Bundle.tN "SUPPRESSED_SENTINEL" Bundle.listD
        · rw [e4]; exact lN
        · exact h1 w (List.mem_filter.mpr ⟨hw, by unfold vx_no; rw [decide_eq_true e1, decide_eq_true e2, decide_eq_true e3, decide_eq_true e4]; rfl⟩)
/-- where a static field lies, its class's statics cell in H -/
def vx_L (C n d : String) (A : Nat → Prop) (U : State) (H : Heap) : Prop := ∃ (c : ClassId) (k : Class) (i : Nat) (f : Field) (a : Nat) (cell : Cell), U.vm.findClass C = some c ∧ U.fieldFound? C n d = some (c, k, i, f) ∧ f.isStatic = true ∧ k.statics = some a ∧ H[a]? = some cell ∧ cell.vm.isStatics = true ∧ cell.cls = c ∧ f.slot < cell.slots.size ∧ k.staticTypes[f.slot]? = some f.type ∧ ¬ A a
theorem vx_L.moved {C n d : String} {A : Nat → Prop} {u U : State} {H : Heap} (hvm : u.vm.Alike U.vm) (h : vx_L C n d A u H) : vx_L C n d A U H := by
  obtain ⟨c, k, i, f, a, cell, h1, h2, h3, h4, h5, h6, h7, h8, h9, h10⟩ := h
  obtain ⟨k', hi', he⟩ := State.fieldFound?_setVm hvm h2
  exact ⟨c, k', i, f, a, cell, by rw [hvm.findClass]; exact h1, hi', h3, by rw [he]; exact h4, h5, h6, h7, h8, by rw [he]; exact h9, h10⟩
theorem vx_L.kept {C n d : String} {A : Nat → Prop} {U : State} {H H1 : Heap} (h : vx_L C n d A U H) (hq : ∀ a : Nat, a < H.size → ¬ A a → H1[a]? = H[a]?) : vx_L C n d A U H1 := by
  obtain ⟨c, k, i, f, a, cell, h1, h2, h3, h4, h5, h6, h7, h8, h9, h10⟩ := h
  exact ⟨c, k, i, f, a, cell, h1, h2, h3, h4, by rw [hq a (Array.getElem?_eq_some_iff.mp h5).1 h10]; exact h5, h6, h7, h8, h9, h10⟩
theorem vx_L.narrow {C n d : String} {A B : Nat → Prop} {U : State} {H : Heap} (h : vx_L C n d A U H) (hAB : ∀ q, B q → A q) : vx_L C n d B U H := by
  obtain ⟨c, k, i, f, a, cell, h1, h2, h3, h4, h5, h6, h7, h8, h9, h10⟩ := h
  exact ⟨c, k, i, f, a, cell, h1, h2, h3, h4, h5, h6, h7, h8, h9, fun z => h10 (hAB _ z)⟩
theorem vx_L.word {C n d : String} {A : Nat → Prop} {s : State} {args : Array Value} (h : vx_L C n d A s s.heap) : (Cond.laysStatic C n d).before args s = true := by
  obtain ⟨c, k, i, f, a, cell, h1, h2, h3, h4, h5, h6, h7, h8, h9, -⟩ := h
  show (Cond.laysStatic C n d).holds args s none s [] = true
  exact Cond.laysStatic_of h1 h2 h3 h4 h5 h6 h7 h8 h9
/-- .. and what it holds: null or some reference -/
def vx_Zq (C n d : String) (A : Nat → Prop) (U : State) (H : Heap) : Prop := va_Zq C n d A U H ∧ vx_L C n d A U H
theorem vx_Zq.moved {C n d : String} {A : Nat → Prop} {u U : State} {H : Heap} (hvm : u.vm.Alike U.vm) (h : vx_Zq C n d A u H) : vx_Zq C n d A U H := ⟨va_Zq.moved hvm h.1, vx_L.moved hvm h.2⟩
theorem vx_Zq.kept {C n d : String} {A : Nat → Prop} {U : State} {H H1 : Heap} (h : vx_Zq C n d A U H) (hq : ∀ a : Nat, a < H.size → ¬ A a → H1[a]? = H[a]?) : vx_Zq C n d A U H1 := ⟨va_Zq.kept h.1 hq, vx_L.kept h.2 hq⟩
theorem vx_Zq.narrow {C n d : String} {A B : Nat → Prop} {U : State} {H : Heap} (h : vx_Zq C n d A U H) (hAB : ∀ q, B q → A q) : vx_Zq C n d B U H := ⟨va_Zq.narrow h.1 hAB, vx_L.narrow h.2 hAB⟩
theorem vx_Zqof {args : Array Value} {s : State} {C n d : String} {A : Nat → Prop} (hl : (Cond.laysStatic C n d).before args s = true) (hini : (Cond.initialized C).before args s = true) (h : (Cond.isRef (.static C n d)).before args s = true) (hA : ∀ a : Nat, a < s.heap.size → ¬ A a) : vx_Zq C n d A s s.heap := by
  refine ⟨va_Zqof hl hini h hA, ?_⟩
  obtain ⟨c, k, i, f, a, cell, h1, h2, h3, h4, h5, h6, h7, h8, h9⟩ := Cond.laysStatic_spec hl
  exact ⟨c, k, i, f, a, cell, h1, h2, h3, h4, h5, h6, h7, h8, h9, hA a (Array.getElem?_eq_some_iff.mp h5).1⟩
theorem vx_isRef {C n d : String} {v : Value} {A : Nat → Prop} {s : State} {args : Array Value} (h : va_Z C n d v A s s.heap) (hv : v.isRef = true) : (Cond.isRef (.static C n d)).before args s = true := by
  obtain ⟨cf, kf, fi, f, a, cell, h1, h2, h3, h4, h5, h6, h7, -⟩ := h
  have he : (Term.static C n d).eval args s none [] s = some v := by
    simp [Term.eval, State.fieldNamed?, h1, h2, h4, h5, h6, h7]
  simp only [Cond.before, Cond.holds, Cond.value, he]
  cases v <;> simp_all [Value.isRef]
theorem vx_isRefq {C n d : String} {A : Nat → Prop} {s : State} {args : Array Value} (h : va_Zq C n d A s s.heap) : (Cond.isRef (.static C n d)).before args s = true := by
  rcases h with h | ⟨t, h⟩
  · exact vx_isRef h rfl
  · exact vx_isRef h rfl
/-- the same frame, seen from here: as if the method were called anew in this heap -/
theorem vx_rebase {T : State} (X : Stand p l e R s m args below meth c T locs cells slots) {R' : Room} (hf : R'.frames ≤ R.frames) (hl : R'.locals ≤ R.locals) (hc : cells + R'.cells ≤ R.cells) (hs : slots + R'.slots ≤ R.slots) :
    Stand p l e R' ((T.setVm s.vm).setFrames (.invoking m args :: below)) m args below meth c T [] 0 0 := by
  have htop : (T.setVm s.vm).topJava?.isSome := X.here.top
  have hF : ((T.setVm s.vm).setFrames (.invoking m args :: below)).frames = .invoking m args :: below := State.frames_setFrames _ (State.cur_lt_of_top htop)
  obtain ⟨g₀, hg0⟩ := Option.isSome_iff_exists.mp htop
  obtain ⟨r, hr⟩ := State.topJava?_eq_some.mp hg0
  have hl9 : e.platform.stackLimits (T.setVm s.vm).me = e.platform.stackLimits s.me := X.limits
  have hb9 : (T.setVm s.vm).me.stackBytes = s.me.stackBytes := X.bytes
  refine ⟨X.admits, X.cas, X.clock, hF, ?_, X.hears, X.method, X.code, X.here, X.tail, X.warmed, ?_, ?_, ?_⟩
  · have h := X.room
    have hU : ((T.setVm s.vm).setFrames (.invoking m args :: below)).localsInUse = s.localsInUse := by
      rw [State.localsInUse_invoking hF (meth := meth) (c := c) X.method X.code, State.localsInUse_invoking X.frames X.method X.code]
    simp only [State.hasRoom, Bool.and_eq_true, decide_eq_true_eq] at h ⊢
    obtain ⟨⟨⟨⟨h1, h2, h3, h4, h5, h6⟩, h7⟩, h8⟩, h9⟩ := h
    rw [X.frames, List.length_cons] at h2 h3
    have q1 := X.heapSize
    have q2 := X.used
    simp only [hF, hU, List.length_cons, State.stackLimits_setFrames, State.stackBytes_setFrames, hl9, hb9]
    refine ⟨⟨⟨⟨by omega, by omega, by omega, by omega, by omega, h6⟩, ?_⟩, ?_⟩, X.book⟩
    · show T.heap.size + R'.cells ≤ e.platform.maxCells
      omega
    · show T.slotsUsed + R'.slots ≤ e.platform.maxSlots
      omega
  · rw [State.stackLimits_setFrames]; rfl
  · rw [State.stackBytes_setFrames]; rfl
  · refine ⟨?_, Nat.le_refl _, Nat.le_refl _, ?_, ?_, fun a c9 h9 => ⟨c9, h9, rfl, rfl, fun _ _ => rfl⟩⟩
    · obtain ⟨t, ht, -⟩ := State.frames_cons hr
      show T.setVm s.vm = { ((T.setVm s.vm).setFrames (.invoking m args :: below)).setFrames (T.setVm s.vm).frames with heap := T.heap, slotsUsed := T.slotsUsed }
      rw [State.setFrames_setFrames, State.setFrames_self ht]
      rfl
    · show T.slotsUsed = T.slotsUsed + ((T.heap.toList.drop T.heap.size).map (·.slots.size)).sum
      rw [List.drop_eq_nil_of_le (Nat.le_of_eq Array.length_toList)]
      rfl
    · show ((T.heap.toList.drop T.heap.size).map (·.slots.size)).sum ≤ 0
      rw [List.drop_eq_nil_of_le (Nat.le_of_eq Array.length_toList)]
      exact Nat.le_refl _
/-- 'throw new E()': new; dup; invokespecial; athrow -/
theorem vx_throw0 {cc : ByteArray} {pc : Nat} (hexec : p.tables.exec = Jvm.exec) (hb : c.code = cc) (hl : l.stackTraces = false) {own cls : String} {names : List String} {ik ic mc ms : Nat} {A : Nat → Prop}
    (hown : s.vm.findClass own = some m.cls) (hcls : Bundle.fit cls = true) (hnames : ∀ n ∈ names, Bundle.fit n = true)
    (hk : (Cond.classLink own ik cls).before args s = true) (hini : (Cond.initialized cls).before args s = true) (hat : ∀ w ∈ vx_at0 own ic cls names, w.before args s = true)
    (hgood : ∀ w ∈ Cond.classLink own ik cls :: Cond.initialized cls :: vx_at0 own ic cls names, vx_ot w = true)
    (hU : vx_Zq Bundle.tN "UNASSIGNED_STACK" Bundle.steD A s s.heap) (hN : vx_Zq Bundle.tN "SUPPRESSED_SENTINEL" Bundle.listD A s s.heap) (hS : va_S A s.heap H locs) (hsize : ls.size = c.maxLocals)
    (d0 : decode cc pc = .ok (.new ik, 3)) (d3 : decode cc (pc + 3) = .ok (.dup, 1)) (d4 : decode cc (pc + 4) = .ok (.invokespecial ic, 3)) (d7 : decode cc (pc + 7) = .ok (.athrow, 1))
    (hout : ∀ x ∈ c.exceptionTable.toList, covers x (pc + 7) = false)
    (hRframes : names.length + 3 < R.frames) (hRlocals : (rest.map fun v => v.category).sum + (13 * (names.length + 1) + 42) ≤ R.locals) (hRcells : cells + 1 ≤ R.cells) (hRslots : slots + 6 ≤ R.slots) (hlocks : meth.locks = false)
    (hx : ∀ t : State, s.vm.Alike t.vm → H.size ≤ t.heap.size → (∀ q : Nat, q < H.size → t.heap[q]? = H[q]?) → XC cls s t)
    (hf : ∀ z ∈ locs, free z.base) (hc : cells + 1 ≤ mc) (hs : slots + 6 ≤ ms) :
    W p l e R s m args below meth c H locs cells slots (vx_MQ below Qc XC args s mc ms free) (F0 m pc ls rest) := by
  intro T hT X
  have htr : e.platform.stackTraces = false := (show e.platform.stackTraces = l.stackTraces by rw [X.admits.platform]).trans hl
  have Y := vx_rebase X (R' := { frames := R.frames, locals := R.locals, cells := 1, slots := 6 }) (Nat.le_refl _) (Nat.le_refl _) hRcells hRslots
  obtain ⟨s', hA⟩ : ∃ z, z = (T.setVm s.vm).setFrames (.invoking m args :: below) := ⟨_, rfl⟩
  rw [← hA] at Y
  have hvm : s'.vm = s.vm := by rw [hA]; rfl
  have hhp : s'.heap = H := by rw [hA]; exact hT
  have hW0 : s.WarmedH s'.vm := by rw [hvm]; exact State.WarmedH.refl s
  have hat' : ∀ w ∈ vx_at0 own ic cls names, w.before args s' = true := fun w hw => vx_ot_at hW0 hvm.symm (hgood w (List.mem_cons_of_mem _ (List.mem_cons_of_mem _ hw))) (hat w hw)
  have hk' : (Cond.classLink own ik cls).before args s' = true := vx_ot_at hW0 hvm.symm (hgood _ List.mem_cons_self) hk
  have hini' : (Cond.initialized cls).before args s' = true := vx_ot_at hW0 hvm.symm (hgood _ (List.mem_cons_of_mem _ List.mem_cons_self)) hini
  have hU' : vx_Zq Bundle.tN "UNASSIGNED_STACK" Bundle.steD A s' s'.heap := by rw [hhp]; exact vx_Zq.moved hW0.alike (hU.kept hS.2.1)
  have hN' : vx_Zq Bundle.tN "SUPPRESSED_SENTINEL" Bundle.listD A s' s'.heap := by rw [hhp]; exact vx_Zq.moved hW0.alike (hN.kept hS.2.1)
  have h : ∀ w ∈ Bundle.ownAtoms0 own ic cls names, w.before args s' = true := vx_own hat' (vx_isRefq hU'.1) (vx_isRefq hN'.1) hU'.2.word hN'.2.word
  have hown' : s'.vm.findClass own = some m.cls := by rw [hvm]; exact hown
  have hins : (Cond.instantiable cls 6).before args s' = true := h _ (by simp [Bundle.ownAtoms0])
  obtain ⟨vm₁, cX, kX, hfX, hkX, -, -, X₁, st1⟩ := Y.newCold hexec (own := own) (C := cls) (index := ik) (n := 6) hown' hk' hins hini'
    (g := F0 m pc ls rest) rfl (by rw [hb]; exact d0) (Nat.le_refl _) (Nat.le_refl _)
  generalize hT1 : (T.setVm vm₁).pushCell { cls := cX, slots := kX.instanceTypes.map defaultValue, vm := .none } = T1 at X₁ st1
  have hcat : (Value.ref T.heap.size).category = 1 := rfl
  have hcellA : T1.heap[T.heap.size]? = some (freshCell cX kX) := by rw [← hT1]; exact State.heap_pushCell_size _ _
  have d3' : decode c.code (pc + 3) = .ok (.dup, 1) := by rw [hb]; exact d3
  obtain ⟨U, hsteps, hrun, hend, hW, hsame, ce, hce, hO⟩ := X₁.ctorThrow0 hexec htr (own := own) (cls := cls) (names := names) (ic := ic) hown' hcls hnames h (fun x hx => nomatch hx) hfX hkX hcellA (by rw [hhp, hT]; exact Nat.le_refl _)
    (g := { method := m, pc := pc + 4, locals := ls, stack := .ref T.heap.size :: .ref T.heap.size :: rest, locked := none }) rfl hsize rfl rfl (rest := rest) rfl
    (by rw [hb]; exact d4) (by rw [hb]; exact d7) hout hRframes (by simp only [List.map_cons, List.sum_cons, hcat]; omega) hlocks
  obtain ⟨f1, f2⟩ := vx_frame hsame
  rw [hhp] at f1 f2
  have hWs : s.WarmedH U.vm := State.WarmedH.trans hW0 hW
  have hcl : s.vm.findClass cls = some ce.cls := by
    have h9 := hO.cls
    rw [hvm] at h9
    exact h9
  have hall : s.sameButNew ({ U with vm := s.vm } : State) locs mc ms := by
    subst hA
    obtain ⟨e1, e2⟩ := hsame
    rw [State.setFrames_setFrames] at e1
    have h2 : (T.setVm s.vm).sameButNew ({ U with vm := s.vm } : State) [] (0 + 1) (0 + 6) := ⟨e1, e2⟩
    have h3 := X.same.trans h2
    rw [List.append_nil] at h3
    exact h3.mono hc hs
  refine ⟨U, ?_, .threw T.heap.size, hrun, hend, Or.inr ⟨T.heap.size, rfl, cls, ce, locs, hx U hWs.alike f1 (fun q hq => f2 q hq (fun z hz => nomatch hz)), hce, hO.vm, hcl, hWs, hall, hf⟩⟩
  refine st1 _ ?_
  show Steps p.tables e below (T1.setTop { method := m, pc := pc + 3, locals := ls, stack := .ref T.heap.size :: rest, locked := none }) _
  jvm_step X₁.here [X₁.here.top, hexec, d3', Value.category]
  exact hsteps
/-- 'throw new E("text")': new; dup; ldc; invokespecial; athrow -/
theorem vx_throwS {cc : ByteArray} {pc : Nat} (hexec : p.tables.exec = Jvm.exec) (hb : c.code = cc) (hl : l.stackTraces = false) {own cls text : String} {names : List String} {ik is ic mc ms sa : Nat} {A : Nat → Prop}
    (hown : s.vm.findClass own = some m.cls) (hcls : Bundle.fit cls = true) (hnames : ∀ n ∈ names, Bundle.fit n = true)
    (hk : (Cond.classLink own ik cls).before args s = true) (hini : (Cond.initialized cls).before args s = true) (hstr : vk_R own is text sa s) (hat : ∀ w ∈ vx_atS own ic cls names, w.before args s = true)
    (hgood : ∀ w ∈ Cond.classLink own ik cls :: Cond.initialized cls :: vx_atS own ic cls names, vx_ot w = true)
    (hU : vx_Zq Bundle.tN "UNASSIGNED_STACK" Bundle.steD A s s.heap) (hN : vx_Zq Bundle.tN "SUPPRESSED_SENTINEL" Bundle.listD A s s.heap) (hS : va_S A s.heap H locs) (hsize : ls.size = c.maxLocals)
    (d0 : decode cc pc = .ok (.new ik, 3)) (d3 : decode cc (pc + 3) = .ok (.dup, 1)) (d4 : decode cc (pc + 4) = .ok (.ldc is, 2)) (d6 : decode cc (pc + 6) = .ok (.invokespecial ic, 3)) (d9 : decode cc (pc + 9) = .ok (.athrow, 1))
    (hout : ∀ x ∈ c.exceptionTable.toList, covers x (pc + 9) = false)
    (hRframes : names.length + 3 < R.frames) (hRlocals : (rest.map fun v => v.category).sum + (13 * (names.length + 1) + 43) ≤ R.locals) (hRcells : cells + 1 ≤ R.cells) (hRslots : slots + 6 ≤ R.slots) (hlocks : meth.locks = false)
    (hx : ∀ t : State, s.vm.Alike t.vm → H.size ≤ t.heap.size → (∀ q : Nat, q < H.size → t.heap[q]? = H[q]?) → XC cls s t)
    (hf : ∀ z ∈ locs, free z.base) (hc : cells + 1 ≤ mc) (hs : slots + 6 ≤ ms) :
    W p l e R s m args below meth c H locs cells slots (vx_MQ below Qc XC args s mc ms free) (F0 m pc ls rest) := by
  intro T hT X
  have htr : e.platform.stackTraces = false := (show e.platform.stackTraces = l.stackTraces by rw [X.admits.platform]).trans hl
  have Y := vx_rebase X (R' := { frames := R.frames, locals := R.locals, cells := 1, slots := 6 }) (Nat.le_refl _) (Nat.le_refl _) hRcells hRslots
  obtain ⟨s', hA⟩ : ∃ z, z = (T.setVm s.vm).setFrames (.invoking m args :: below) := ⟨_, rfl⟩
  rw [← hA] at Y
  have hvm : s'.vm = s.vm := by rw [hA]; rfl
  have hhp : s'.heap = H := by rw [hA]; exact hT
  have hW0 : s.WarmedH s'.vm := by rw [hvm]; exact State.WarmedH.refl s
  have hat' : ∀ w ∈ vx_atS own ic cls names, w.before args s' = true := fun w hw => vx_ot_at hW0 hvm.symm (hgood w (List.mem_cons_of_mem _ (List.mem_cons_of_mem _ hw))) (hat w hw)
  have hk' : (Cond.classLink own ik cls).before args s' = true := vx_ot_at hW0 hvm.symm (hgood _ List.mem_cons_self) hk
  have hini' : (Cond.initialized cls).before args s' = true := vx_ot_at hW0 hvm.symm (hgood _ (List.mem_cons_of_mem _ List.mem_cons_self)) hini
  have hU' : vx_Zq Bundle.tN "UNASSIGNED_STACK" Bundle.steD A s' s'.heap := by rw [hhp]; exact vx_Zq.moved hW0.alike (hU.kept hS.2.1)
  have hN' : vx_Zq Bundle.tN "SUPPRESSED_SENTINEL" Bundle.listD A s' s'.heap := by rw [hhp]; exact vx_Zq.moved hW0.alike (hN.kept hS.2.1)
  have h : ∀ w ∈ Bundle.ownAtoms own ic cls names, w.before args s' = true := vx_own hat' (vx_isRefq hU'.1) (vx_isRefq hN'.1) hU'.2.word hN'.2.word
  have hown' : s'.vm.findClass own = some m.cls := by rw [hvm]; exact hown
  have hins : (Cond.instantiable cls 6).before args s' = true := h _ (by simp [Bundle.ownAtoms])
  obtain ⟨vm₁, cX, kX, hfX, hkX, -, -, X₁, st1⟩ := Y.newCold hexec (own := own) (C := cls) (index := ik) (n := 6) hown' hk' hins hini'
    (g := F0 m pc ls rest) rfl (by rw [hb]; exact d0) (Nat.le_refl _) (Nat.le_refl _)
  generalize hT1 : (T.setVm vm₁).pushCell { cls := cX, slots := kX.instanceTypes.map defaultValue, vm := .none } = T1 at X₁ st1
  have hcat : (Value.ref T.heap.size).category = 1 := rfl
  have hcellA : T1.heap[T.heap.size]? = some (freshCell cX kX) := by rw [← hT1]; exact State.heap_pushCell_size _ _
  have d3' : decode c.code (pc + 3) = .ok (.dup, 1) := by rw [hb]; exact d3
  have d4' : decode c.code (pc + 4) = .ok (.ldc is, 2) := by rw [hb]; exact d4
  have hstr' : vk_R own is text sa s' := vk_R.warm hW0 hstr
  obtain ⟨U, hsteps, hrun, hend, hW, hsame, ce, hce, hO⟩ := X₁.ctorThrowS hexec htr (own := own) (cls := cls) (names := names) (ic := ic) hown' hcls hnames h (fun x hx => nomatch hx) hfX hkX hcellA (by rw [hhp, hT]; exact Nat.le_refl _) (msg := .ref sa) rfl
    (g := { method := m, pc := pc + 6, locals := ls, stack := .ref sa :: .ref T.heap.size :: .ref T.heap.size :: rest, locked := none }) rfl hsize rfl rfl (rest := rest) rfl
    (by rw [hb]; exact d6) (by rw [hb]; exact d9) hout hRframes (by simp only [List.map_cons, List.sum_cons, hcat]; omega) hlocks
  obtain ⟨f1, f2⟩ := vx_frame hsame
  rw [hhp] at f1 f2
  have hWs : s.WarmedH U.vm := State.WarmedH.trans hW0 hW
  have hcl : s.vm.findClass cls = some ce.cls := by
    have h9 := hO.cls
    rw [hvm] at h9
    exact h9
  have hall : s.sameButNew ({ U with vm := s.vm } : State) locs mc ms := by
    subst hA
    obtain ⟨e1, e2⟩ := hsame
    rw [State.setFrames_setFrames] at e1
    have h2 : (T.setVm s.vm).sameButNew ({ U with vm := s.vm } : State) [] (0 + 1) (0 + 6) := ⟨e1, e2⟩
    have h3 := X.same.trans h2
    rw [List.append_nil] at h3
    exact h3.mono hc hs
  refine ⟨U, ?_, .threw T.heap.size, hrun, hend, Or.inr ⟨T.heap.size, rfl, cls, ce, locs, hx U hWs.alike f1 (fun q hq => f2 q hq (fun z hz => nomatch hz)), hce, hO.vm, hcl, hWs, hall, hf⟩⟩
  refine st1 _ ?_
  show Steps p.tables e below (T1.setTop { method := m, pc := pc + 3, locals := ls, stack := .ref T.heap.size :: rest, locked := none }) _
  jvm_step X₁.here [X₁.here.top, hexec, d3', Value.category]
  exact X₁.ldcString hexec (own := own) (text := text) (index := is) (a := sa) hown' hstr'.1 hstr'.2
    (g := { method := m, pc := pc + 4, locals := ls, stack := .ref T.heap.size :: .ref T.heap.size :: rest, locked := none }) rfl d4' _ hsteps
/-- 'throw new E("text")', the text by a wide index -/
theorem vx_throwSW {cc : ByteArray} {pc : Nat} (hexec : p.tables.exec = Jvm.exec) (hb : c.code = cc) (hl : l.stackTraces = false) {own cls text : String} {names : List String} {ik is ic mc ms sa : Nat} {A : Nat → Prop}
    (hown : s.vm.findClass own = some m.cls) (hcls : Bundle.fit cls = true) (hnames : ∀ n ∈ names, Bundle.fit n = true)
    (hk : (Cond.classLink own ik cls).before args s = true) (hini : (Cond.initialized cls).before args s = true) (hstr : vk_R own is text sa s) (hat : ∀ w ∈ vx_atS own ic cls names, w.before args s = true)
    (hgood : ∀ w ∈ Cond.classLink own ik cls :: Cond.initialized cls :: vx_atS own ic cls names, vx_ot w = true)
    (hU : vx_Zq Bundle.tN "UNASSIGNED_STACK" Bundle.steD A s s.heap) (hN : vx_Zq Bundle.tN "SUPPRESSED_SENTINEL" Bundle.listD A s s.heap) (hS : va_S A s.heap H locs) (hsize : ls.size = c.maxLocals)
    (d0 : decode cc pc = .ok (.new ik, 3)) (d3 : decode cc (pc + 3) = .ok (.dup, 1)) (d4 : decode cc (pc + 4) = .ok (.ldc_w is, 3)) (d7 : decode cc (pc + 7) = .ok (.invokespecial ic, 3)) (d10 : decode cc (pc + 10) = .ok (.athrow, 1))
    (hout : ∀ x ∈ c.exceptionTable.toList, covers x (pc + 10) = false)
    (hRframes : names.length + 3 < R.frames) (hRlocals : (rest.map fun v => v.category).sum + (13 * (names.length + 1) + 43) ≤ R.locals) (hRcells : cells + 1 ≤ R.cells) (hRslots : slots + 6 ≤ R.slots) (hlocks : meth.locks = false)
    (hx : ∀ t : State, s.vm.Alike t.vm → H.size ≤ t.heap.size → (∀ q : Nat, q < H.size → t.heap[q]? = H[q]?) → XC cls s t)
    (hf : ∀ z ∈ locs, free z.base) (hc : cells + 1 ≤ mc) (hs : slots + 6 ≤ ms) :
    W p l e R s m args below meth c H locs cells slots (vx_MQ below Qc XC args s mc ms free) (F0 m pc ls rest) := by
  intro T hT X
  have htr : e.platform.stackTraces = false := (show e.platform.stackTraces = l.stackTraces by rw [X.admits.platform]).trans hl
  have Y := vx_rebase X (R' := { frames := R.frames, locals := R.locals, cells := 1, slots := 6 }) (Nat.le_refl _) (Nat.le_refl _) hRcells hRslots
  obtain ⟨s', hA⟩ : ∃ z, z = (T.setVm s.vm).setFrames (.invoking m args :: below) := ⟨_, rfl⟩
  rw [← hA] at Y
  have hvm : s'.vm = s.vm := by rw [hA]; rfl
  have hhp : s'.heap = H := by rw [hA]; exact hT
  have hW0 : s.WarmedH s'.vm := by rw [hvm]; exact State.WarmedH.refl s
  have hat' : ∀ w ∈ vx_atS own ic cls names, w.before args s' = true := fun w hw => vx_ot_at hW0 hvm.symm (hgood w (List.mem_cons_of_mem _ (List.mem_cons_of_mem _ hw))) (hat w hw)
  have hk' : (Cond.classLink own ik cls).before args s' = true := vx_ot_at hW0 hvm.symm (hgood _ List.mem_cons_self) hk
  have hini' : (Cond.initialized cls).before args s' = true := vx_ot_at hW0 hvm.symm (hgood _ (List.mem_cons_of_mem _ List.mem_cons_self)) hini
  have hU' : vx_Zq Bundle.tN "UNASSIGNED_STACK" Bundle.steD A s' s'.heap := by rw [hhp]; exact vx_Zq.moved hW0.alike (hU.kept hS.2.1)
  have hN' : vx_Zq Bundle.tN "SUPPRESSED_SENTINEL" Bundle.listD A s' s'.heap := by rw [hhp]; exact vx_Zq.moved hW0.alike (hN.kept hS.2.1)
  have h : ∀ w ∈ Bundle.ownAtoms own ic cls names, w.before args s' = true := vx_own hat' (vx_isRefq hU'.1) (vx_isRefq hN'.1) hU'.2.word hN'.2.word
  have hown' : s'.vm.findClass own = some m.cls := by rw [hvm]; exact hown
  have hins : (Cond.instantiable cls 6).before args s' = true := h _ (by simp [Bundle.ownAtoms])
  obtain ⟨vm₁, cX, kX, hfX, hkX, -, -, X₁, st1⟩ := Y.newCold hexec (own := own) (C := cls) (index := ik) (n := 6) hown' hk' hins hini'
    (g := F0 m pc ls rest) rfl (by rw [hb]; exact d0) (Nat.le_refl _) (Nat.le_refl _)
  generalize hT1 : (T.setVm vm₁).pushCell { cls := cX, slots := kX.instanceTypes.map defaultValue, vm := .none } = T1 at X₁ st1
  have hcat : (Value.ref T.heap.size).category = 1 := rfl
  have hcellA : T1.heap[T.heap.size]? = some (freshCell cX kX) := by rw [← hT1]; exact State.heap_pushCell_size _ _
  have d3' : decode c.code (pc + 3) = .ok (.dup, 1) := by rw [hb]; exact d3
  have d4' : decode c.code (pc + 4) = .ok (.ldc_w is, 3) := by rw [hb]; exact d4
  have hstr' : vk_R own is text sa s' := vk_R.warm hW0 hstr
  obtain ⟨U, hsteps, hrun, hend, hW, hsame, ce, hce, hO⟩ := X₁.ctorThrowS hexec htr (own := own) (cls := cls) (names := names) (ic := ic) hown' hcls hnames h (fun x hx => nomatch hx) hfX hkX hcellA (by rw [hhp, hT]; exact Nat.le_refl _) (msg := .ref sa) rfl
    (g := { method := m, pc := pc + 7, locals := ls, stack := .ref sa :: .ref T.heap.size :: .ref T.heap.size :: rest, locked := none }) rfl hsize rfl rfl (rest := rest) rfl
    (by rw [hb]; exact d7) (by rw [hb]; exact d10) hout hRframes (by simp only [List.map_cons, List.sum_cons, hcat]; omega) hlocks
  obtain ⟨f1, f2⟩ := vx_frame hsame
  rw [hhp] at f1 f2
  have hWs : s.WarmedH U.vm := State.WarmedH.trans hW0 hW
  have hcl : s.vm.findClass cls = some ce.cls := by
    have h9 := hO.cls
    rw [hvm] at h9
    exact h9
  have hall : s.sameButNew ({ U with vm := s.vm } : State) locs mc ms := by
    subst hA
    obtain ⟨e1, e2⟩ := hsame
    rw [State.setFrames_setFrames] at e1
    have h2 : (T.setVm s.vm).sameButNew ({ U with vm := s.vm } : State) [] (0 + 1) (0 + 6) := ⟨e1, e2⟩
    have h3 := X.same.trans h2
    rw [List.append_nil] at h3
    exact h3.mono hc hs
  refine ⟨U, ?_, .threw T.heap.size, hrun, hend, Or.inr ⟨T.heap.size, rfl, cls, ce, locs, hx U hWs.alike f1 (fun q hq => f2 q hq (fun z hz => nomatch hz)), hce, hO.vm, hcl, hWs, hall, hf⟩⟩
  refine st1 _ ?_
  show Steps p.tables e below (T1.setTop { method := m, pc := pc + 3, locals := ls, stack := .ref T.heap.size :: rest, locked := none }) _
  jvm_step X₁.here [X₁.here.top, hexec, d3', Value.category]
  exact X₁.ldcStringW hexec (own := own) (text := text) (index := is) (a := sa) hown' hstr'.1 hstr'.2
    (g := { method := m, pc := pc + 4, locals := ls, stack := .ref T.heap.size :: .ref T.heap.size :: rest, locked := none }) rfl d4' _ hsteps
end Ends
section Bodies
variable {l : Launch}
theorem vx_ofW {y : MethodName} {ws ws' : List Cond} {rm : Room} {Pc : Array Value → State → Prop} {Qc : Array Value → State → Outcome → State → Prop} {XC : String → State → State → Prop} {mc ms : Nat} {free : Addr → Prop} {cc : ByteArray} {maxL : Nat} {ret : Option FieldType}
    (hy : plainName y.cls = true) (hw : ws = Cond.code y cc maxL ret :: ws')
    (body : ∀ p e s m args below meth c s₁, BodyLoose p l y (headSpec ws rm) cc maxL ret e s m args below meth c s₁ → c.maxLocals = maxL → (∀ x ∈ c.exceptionTable.toList, False) → Pc args s →
      W p l e (headSpec ws rm).room s m args below meth c s.heap [] 0 0 (vx_MQ below Qc XC args s mc ms free) (entryFrame m args maxL)) : vx_Met l y ws rm Pc Qc XC mc ms free := by
  refine MetFree.of_bodyS (code := cc) (maxLocals := maxL) (ret := ret) hy ?_ ?_
  · intro args s m h hn
    obtain ⟨meth, c, h1, h2, h3, h4, h5, h6, -, -⟩ := Cond.code_spec hn (atoms_spec (ws := ws) h _ (by rw [hw]; exact List.mem_cons_self))
    exact ⟨meth, c, h1, h2, h3, h4, h5, h6⟩
  · intro p e s m args below meth c s₁ B hml hP _
    have hh0 : s₁.heap = s.heap := by rw [B.state]; rfl
    have ht : ∀ x ∈ c.exceptionTable.toList, False := by
      obtain ⟨meth9, c9, h1, h2, -, -, -, -, h7, -⟩ := Cond.code_spec B.named (atoms_spec (ws := ws) B.pre _ (by rw [hw]; exact List.mem_cons_self))
      cases Option.some.inj (h1.symm.trans B.method)
      cases Option.some.inj (h2.symm.trans (Stand.of_body B).code)
      intro x hx
      rw [Array.isEmpty_iff.mp h7] at hx
      cases hx
    obtain ⟨t, a1, o, b1, b2, b3⟩ := body p e s m args below meth c s₁ B hml ht hP s₁ hh0 (Stand.of_body B)
    exact ⟨t, o, a1, b1, b2, b3⟩
/-- the table of a body with handlers -/
theorem vx_table {p : Program} {x y : MethodName} {S : Spec} {cc bytes : ByteArray} {maxL maxL' : Nat} {ret ret' : Option FieldType} {e : Env} {s s₁ : State} {m : MethodId} {args : Array Value} {below : List Frame} {meth : Method} {c : Code} {hh : List (Nat × Nat × Nat × Nat)}
    (B : BodyLoose p l y S cc maxL ret e s m args below meth c s₁) (h : (Cond.codeWith y bytes maxL' ret' hh).before args s = true) : c.exceptionTable.toList = tableOf hh := by
  obtain ⟨m9, meth9, c9, hn9, h1, h2, -, -, h6, -⟩ := Cond.codeWith_spec h
  cases Option.some.inj (hn9.symm.trans B.named)
  cases Option.some.inj (h1.symm.trans B.method)
  cases Option.some.inj (h2.symm.trans (Stand.of_body B).code)
  rw [← h6, table_eq]
end Bodies
end VXA
/-! ===== END ===== -/
/-! ===== BEGIN a static call of a method with an exception table ===== -/
section VXS
variable {p : Program} {l : Launch} {e : Env} {R : Room} {s : State} {m : MethodId} {args : Array Value} {below : List Frame} {meth : Method} {c : Code} {T : State} {H : Heap} {locs : List Loc} {cells slots : Nat}
abbrev vx_CSW (R : Room) (s : State) (args : Array Value) (own : String) (index : Nat) (y : MethodName) (bytes : ByteArray) (maxL : Nat) (ret : Option FieldType) (hh : List (Nat × Nat × Nat × Nat)) (ws : List Cond) (rm : Room) (mc ms n : Nat) : Prop :=
  (rm.cells = mc ∧ rm.slots = ms ∧ rm.frames + 1 ≤ R.frames ∧ 8 + (maxL + 11) + rm.locals ≤ R.locals ∧ (∀ w ∈ ws, ∀ (a' : Array Value) (U : State), s.WarmedH U.vm → w.before a' U = true) ∧ Cond.codeWith y bytes maxL ret hh ∈ ws) ∧
  (Cond.codeWith y bytes maxL ret hh).before args s = true ∧ (Cond.initialized y.cls).before args s = true ∧ (y.cls ≠ "java/lang/invoke/MethodHandle" ∧ y.cls ≠ "java/lang/invoke/VarHandle") ∧
  (∀ sig, parseMethodDescriptor y.desc = some sig → n = sig.parameters.length) ∧ (Cond.methodLink own index y).before args s = true ∧ (Cond.static y).before args s = true
theorem vx_cwSW {own : String} {index maxL mc ms : Nat} {y : MethodName} {bytes : ByteArray} {ret : Option FieldType} {hh : List (Nat × Nat × Nat × Nat)} {Ts ws ws' : List Cond} {rm : Room} (n : Nat) (ht : ∀ w ∈ Ts, w.before args s = true) (hT : GoodIn Ts (va_wsS own index y ws)) (hw : ws = Cond.codeWith y bytes maxL ret hh :: ws') (hrc : rm.cells = mc) (hrs : rm.slots = ms)
    (hd : y.cls ≠ "java/lang/invoke/MethodHandle" ∧ y.cls ≠ "java/lang/invoke/VarHandle" ∧ (parseMethodDescriptor y.desc).map (fun d => d.parameters.length) = some n) (hR : rm.frames + 1 ≤ R.frames ∧ 8 + (maxL + 11) + rm.locals ≤ R.locals) :
    vx_CSW R s args own index y bytes maxL ret hh ws rm mc ms n := by
  have ok : ∀ w ∈ va_wsS own index y ws, w.before args s = true := fun w h => ht w (hT w h).1
  have hG : GoodIn Ts ws := fun w h => hT w (by unfold va_wsS; exact List.mem_append_right _ h)
  have hc : Cond.codeWith y bytes maxL ret hh ∈ ws := by rw [hw]; exact List.mem_cons_self
  refine ⟨⟨hrc, hrs, hR.1, hR.2, pay_in ht hG, hc⟩, ht _ (hG _ hc).1, ok _ (by simp [va_wsS]), ⟨hd.1, hd.2.1⟩, fun sig h => ?_, ok _ (by simp [va_wsS]), ok _ (by simp [va_wsS])⟩
  have h2 := hd.2.2
  rw [h] at h2
  exact (Option.some.inj h2).symm
theorem vx_callSW (X : Stand p l e R s m args below meth c T locs cells slots) (hexec : p.tables.exec = Jvm.exec) {own : String} {index : Nat} {y : MethodName} {bytes : ByteArray} {maxL : Nat} {ret : Option FieldType} {hh : List (Nat × Nat × Nat × Nat)}
    (hown : s.vm.findClass own = some m.cls) (hlink : (Cond.methodLink own index y).before args s = true) (hstat : (Cond.static y).before args s = true) (hinit : (Cond.initialized y.cls).before args s = true)
    (hcode : (Cond.codeWith y bytes maxL ret hh).before args s = true) (hy : y.cls ≠ "java/lang/invoke/MethodHandle" ∧ y.cls ≠ "java/lang/invoke/VarHandle")
    {W9 : Nat} {Pre : Pt → Array Value → Prop} {Post : Pt → Array Value → Option Value → Pt → Prop} (hK : Back l R p e below s args y 3 W9 Pre Post)
    {g : JFrame} (hg : g.method = m) (hsize : g.locals.size = c.maxLocals) {argsL rest : List Value} (hlen : ∀ sig, parseMethodDescriptor y.desc = some sig → argsL.length = sig.parameters.length)
    (hstack : g.stack = argsL.reverse ++ rest) (hW : 2 * g.monitorRoom + (rest.map fun v => v.category).sum ≤ W9) (hdg : decode c.code g.pc = .ok (.invokestatic index, 3))
    (hpre : ∀ vm₁, s.WarmedH vm₁ → Pre ⟨T.setVm vm₁, locs, cells, slots⟩ argsL.toArray) :
    ∃ (v : Option Value) (vm₁ : Vm) (B : Pt), s.WarmedH vm₁ ∧ Stand p l e R s m args below meth c B.U B.locs B.cells B.slots ∧ Post ⟨T.setVm vm₁, locs, cells, slots⟩ argsL.toArray v B ∧
      ∀ target, Steps p.tables e below (B.U.setTop { g with pc := g.pc + 3, stack := v.toList ++ rest }) target → Steps p.tables e below (T.setTop g) target := by
  obtain ⟨mk, methM, cM, hnamed, hmethM, -, -, -, -, -, -, hsigM⟩ := Cond.codeWith_spec hcode
  have hstatic : methM.isStatic = true := Cond.static_spec hnamed hmethM hstat
  obtain ⟨kP, hkP, -⟩ := className_of_methodNamed hnamed
  have hinitP : kP.init = .initialized := Cond.initialized_spec (findClass_of_methodNamed hnamed) hkP hinit
  obtain ⟨vm₁, X₁, hstep₁⟩ := X.invokestatic hexec hown hlink hnamed hmethM hstatic hkP hinitP hy (g := g) hg (argsL := argsL) (rest := rest) (hlen _ hsigM) hstack hdg
  obtain ⟨v, B, X', hpost, hsteps⟩ := hK m meth c ⟨T.setVm vm₁, locs, cells, slots⟩ { g with stack := rest } (.invokestatic index) mk argsL.toArray X₁ hg hsize hdg hW (X₁.named hnamed) (hpre vm₁ X₁.warmed)
  exact ⟨v, vm₁, B, X₁.warmed, X', hpost, fun target h => hstep₁ _ fun acts => by rw [doInvoke_state]; exact hsteps.trans h⟩
theorem vx_runSW {y : MethodName} {bytes cc : ByteArray} {maxL nL mc ms n index : Nat} {ret : Option FieldType} {hh : List (Nat × Nat × Nat × Nat)} {ws : List Cond} {rm : Room} {Pc : Array Value → State → Prop} {Qc : Array Value → State → Outcome → State → Prop} {free : Addr → Prop} {Ts : List Cond} {own : String} {As rest : List Value} {g : JFrame}
    (S : CallFix p m c cc nL s args Ts own) (hM : Met l y ws rm Pc Qc mc ms free) (cw : vx_CSW R s args own index y bytes maxL ret hh ws rm mc ms n) (hp : PreS s H Pc As)
    (hg : g.method = m) (hn : As.length = n) (hsize : g.locals.size = nL) (hstack : g.stack = As.reverse ++ rest) (hW : 2 * g.monitorRoom + (rest.map fun v => v.category).sum ≤ 8) (hdg : decode cc g.pc = .ok (.invokestatic index, 3)) (hf : cells + mc ≤ R.cells ∧ slots + ms ≤ R.slots) :
    va_Run p l e R s m args below meth c H locs cells slots mc ms g rest (Qc As.toArray) (free) := by
  obtain ⟨⟨hrc, hrs, hfr, hlo, hws, hcw⟩, hcode, hini, hy, hlen, hl, hstt⟩ := cw
  have hK : Back l R p e below s args y 3 8 (PreOf R mc ms Pc) (PostOf Qc mc ms free) := va_backW (hh := hh) (bytes := bytes) (maxL := maxL) (ret := ret) hM hp.1 hrc hrs hfr hlo hws hcw (fun a' U hW => word_at hW (Or.inl (by first | rfl | simp [Cond.onTables, Cond.keeps, Cond.steady])) hini)
  obtain ⟨hx, hb, hml, ho, -⟩ := S
  intro T hT X
  obtain ⟨v, vm₁, ⟨U', l2, c2, s2⟩, hW₁, X', ⟨g', mk, t, L, e1, e2, hq, h1, hL, h2, h3⟩, st⟩ := vx_callSW X hx (hh := hh) (bytes := bytes) (maxL := maxL) (ret := ret) ho hl hstt hini hcode hy hK hg (hsize.trans hml.symm) (argsL := As) (rest := rest) (fun sig h => hn.trans (hlen sig h)) hstack hW (by rw [hb]; exact hdg)
    (fun vm₁ hW₁ => ⟨hf.1, hf.2, hp.2 (T.setVm vm₁) hT hW₁⟩)
  dsimp only [Pt.U, Pt.locs, Pt.cells, Pt.slots] at X' e1 e2 h1 h2 h3 st
  subst h1; subst h2; subst h3
  exact ⟨v, (T.setVm vm₁).calling g' mk As.toArray, t, U', L, hT, X', hL, e1, e2, hq, st⟩
/-- not caught here, past rows that name other classes: it goes on to the caller -/
theorem vx_outP {p : Program} {l : Launch} {e : Env} {R : Room} {s : State} {m : MethodId} {args : Array Value} {below : List Frame} {meth : Method} {c : Code} {H : Heap} {locs : List Loc} {cells slots : Nat} {free : Addr → Prop} {ls : Array Slot} {rest : List Value} {Qc : Array Value → State → Outcome → State → Prop} {XC : String → State → State → Prop}
    {pc : Nat} {own E : String} {ce : Cell} {q : Addr} {mc ms : Nat} (hown : s.vm.findClass own = some m.cls) (hlocks : meth.locks = false)
    (hpass : ∀ z ∈ c.exceptionTable.toList, covers z pc = false ∨ (z.catchType ≠ 0 ∧ ∃ nm : String, (Cond.classLink own z.catchType nm).before args s = true ∧ va_Nc E nm s)) (hcell : H[q]? = some ce) (hv : ce.vm = .none) (hcl : s.vm.findClass E = some ce.cls)
    (hx : ∀ t : State, t.heap = H → s.vm.Alike t.vm → XC E s t) (hf : ∀ z ∈ locs, free z.base) (hc : cells ≤ mc) (hs : slots ≤ ms) :
    vx_W p l e R s m args below meth c H locs cells slots (vx_MQ below Qc XC args s mc ms free) (F0 m pc ls rest) q := by
  intro T hT X
  have hpl : e.platform.magicAccessors = ({} : Platform).magicAccessors := by rw [X.admits.platform]
  obtain ⟨vm', hW', X', st⟩ := X.outThrough hlocks q (g := F0 m pc ls rest) rfl rfl rfl (cell := ce) (by rw [hT]; exact hcell) (by rw [hv]; rfl)
    (by obtain ⟨k9, h9, -⟩ := Vm.findClass_spec hcl; exact ⟨k9, h9⟩) (fun z hz => by
      rcases hpass z hz with h | ⟨hz0, nm, hl1, hn1⟩
      · exact Or.inl h
      · obtain ⟨c6, hc6, hcl6⟩ := Cond.classLink_spec hown hl1 e.platform hpl
        obtain ⟨a8, b8, h1, h2, h3⟩ := hn1
        cases Option.some.inj (h1.symm.trans hcl)
        cases Option.some.inj (h2.symm.trans hc6)
        exact Or.inr ⟨hz0, _, hcl6, h3⟩)
  obtain ⟨g₀, hfr⟩ := X'.frames_eq
  have hcell9 : ((T.setVm vm').setFrames (.throwing q :: below)).heap[q]? = some ce := by
    show T.heap[q]? = some ce
    rw [hT]; exact hcell
  have hend : Ended ((T.setVm vm').setFrames (.throwing q :: below)) below (.threw q) := State.frames_setFrames _ (State.cur_lt_of_frames hfr)
  refine ⟨(T.setVm vm').setFrames (.throwing q :: below), ?_, .threw q, X'.here.running, hend, Or.inr ⟨q, rfl, E, ce, locs, hx _ hT (X'.ends _).1.alike, hcell9, hv, hcl, (X'.ends _).1, (X'.ends _).2.mono hc hs, hf⟩⟩
  rw [X.pushThrowing_eq]
  exact st
/-- a thing of a world lies in the heap -/
theorem vx_lt {D : va_G} {cl : List vw_C} {ws : va_W} {H1 : Heap} (h : va_P D cl ws H1) {k : Nat} {q : Nat × va_E} (hk : ws[k]? = some q) : q.1 < H1.size := (h k q hk).lt
end VXS
/-! ===== END ===== -/
/-! ===== BEGIN methods with a table of their own: called by a name, returning or throwing ===== -/
section VXH
/-! vx_backW, vx_callVX, vx_callSX, vx_callVW, vx_runVW, vx_runVX, vx_runSX, vx_ofWH follow the same proofs as their sisters above (Free/Laws.lean, Shelf42/LK1.lean); vx_outP calls Shelf42/NT130.lean (outThrough). -/
section
variable {l : Launch} {R : Room} {p : Program} {e : Env} {below : List Frame} {s : State} {sargs : Array Value} {y : MethodName} {len W9 : Nat}
theorem vx_backW {ws : List Cond} {rm : Room} {Pc : Array Value → State → Prop} {Qc : Array Value → State → Outcome → State → Prop} {XC : String → State → State → Prop} {mc ms : Nat} {free : Addr → Prop} {bytes : ByteArray} {maxL : Nat} {ret : Option FieldType} {hh : List (Nat × Nat × Nat × Nat)}
    (hM : vx_Met l y ws rm Pc Qc XC mc ms free) (hblind : FrameBlind Pc) (hrc : rm.cells = mc) (hrs : rm.slots = ms)
    (hframes : rm.frames + 1 ≤ R.frames) (hlocals : W9 + (maxL + 11) + rm.locals ≤ R.locals)
    (hws : ∀ w ∈ ws, ∀ a' U, s.WarmedH U.vm → w.before a' U = true) (hcode : Cond.codeWith y bytes maxL ret hh ∈ ws) (hinit : ∀ a' U, s.WarmedH U.vm → (Cond.initialized y.cls).before a' U = true) :
    vx_Back l R p e below s sargs y len W9 (PreOf R mc ms Pc) (PostOf Qc mc ms free) (vx_Post XC mc ms free) := by
  intro m meth c A g ig mk a X hg hsize hdg hW hn hp
  have h1 : (headSpec ws rm).pre.before a A.U = true := atoms_intro fun w hw => hws w hw _ _ X.warmed
  have h2 : (Cond.codeWith y bytes maxL ret hh).before a A.U = true := hws _ hcode _ _ X.warmed
  have h3 : (Cond.initialized y.cls).before a A.U = true := hinit _ _ X.warmed
  have h4 : A.cells + (headSpec ws rm).room.cells ≤ R.cells := by rw [show (headSpec ws rm).room.cells = mc from hrc]; exact hp.1
  have h5 : A.slots + (headSpec ws rm).room.slots ≤ R.slots := by rw [show (headSpec ws rm).room.slots = ms from hrs]; exact hp.2.1
  have hPc : Pc a (A.U.calling g mk a) := hblind _ _ _ _ hp.2.2
  obtain ⟨U, Ls, c0, s0⟩ := A
  dsimp only [Pt.U, Pt.locs, Pt.cells, Pt.slots] at h1 h2 h3 h4 h5 X hn hPc ⊢
  obtain ⟨m9, methY, cY, hn9, hmY, hcY, -, hlY, -⟩ := Cond.codeWith_spec h2
  cases Option.some.inj (hn9.symm.trans hn)
  obtain ⟨kY, hkY, -⟩ := className_of_methodNamed hn
  have hinitY : kY.init = .initialized := Cond.initialized_spec (findClass_of_methodNamed hn) hkY h3
  have h : At U g.method c below := by rw [hg]; exact X.here
  have hlocals9 : W9 + (maxL + 11) + (headSpec ws rm).room.locals ≤ R.locals := hlocals
  have happ : (headSpec ws rm).appliesLoose y e.platform (U.calling g mk a) = true :=
    Spec.appliesLoose_calling (g := g) h hdg hn hkY hinitY
      (X.room_calling (g := g) (R' := (headSpec ws rm).room) hsize hmY hcY hframes (by rw [hlY]; omega) h4 h5) h1
  obtain ⟨mid, hmid⟩ := h.above
  have hfr : (U.setTop g).frames = (.java g :: mid) ++ below := by rw [State.frames_setTop' g h.top, hmid]; rfl
  obtain ⟨o, s₂, hsteps, -, hend, hq⟩ := Steps.callFree hM p X.admits X.cas X.clock (acts := []) hfr happ hPc trivial
  have hq' : vx_Q Qc XC mc ms free a (U.calling g mk a) o s₂ := hq
  rw [State.frames_setTop' g h.top] at hend
  obtain ⟨g₀, hg0⟩ := Option.isSome_iff_exists.mp h.top
  obtain ⟨r, hr⟩ := State.topJava?_eq_some.mp hg0
  have hr' : (({ U with heap := s₂.heap, slotsUsed := s₂.slotsUsed } : State).setVm s₂.vm).frames = .java g₀ :: r := hr
  rcases hq' with ⟨hqc, L, hfe, hL⟩ | ⟨q, rfl, E, ce, L, hx, hce, hcv, hcl, hW₂, hsm, hL⟩
  · obtain ⟨⟨v, rfl⟩, hW₂, e2, q2, q3, q4, q5, q6⟩ := id hfe
    have e3 : s₂ = ({ (U.calling g mk a).setFrames s₂.frames with heap := s₂.heap, slotsUsed := s₂.slotsUsed } : State).setVm s₂.vm := by
      have : s₂ = ({ s₂ with vm := (U.calling g mk a).vm } : State).setVm s₂.vm := rfl
      rw [e2] at this
      exact this
    obtain ⟨c₂, i₂, len₂, hc₂, hd₂, hf₂⟩ := hend
    have hW' : U.WarmedH s₂.vm := hW₂
    have hcc : c₂ = c := by
      have h1 : s₂.code? g.method = U.code? g.method := by
        rw [State.code?_eq, State.code?_eq, hW'.alike.method?]
      exact Option.some.inj (hc₂.symm.trans (h1.trans h.code))
    subst hcc
    have hlen : len₂ = len := by rw [hdg] at hd₂; cases hd₂; rfl
    subst hlen
    have hs₂ : s₂ = (({ U with heap := s₂.heap, slotsUsed := s₂.slotsUsed } : State).setVm s₂.vm).setTop { g with pc := g.pc + len₂, stack := v.toList ++ g.stack } := by
      refine e3.trans ?_
      rw [hf₂, State.calling_eq h.top, State.setFrames_setFrames, State.setTop_of_frames _ hr', hr]
      rfl
    have hsame : U.sameButNew ({ U with heap := s₂.heap, slotsUsed := s₂.slotsUsed } : State) L mc ms := by
      refine ⟨?_, q2, q3, q4, q5, q6⟩
      obtain ⟨t, ht, -⟩ := State.frames_cons hr
      show ({ U with heap := s₂.heap, slotsUsed := s₂.slotsUsed } : State) = { U.setFrames U.frames with heap := s₂.heap, slotsUsed := s₂.slotsUsed }
      rw [State.setFrames_self ht]
    subst hg
    refine Or.inl ⟨v, ⟨(({ U with heap := s₂.heap, slotsUsed := s₂.slotsUsed } : State).setVm s₂.vm), Ls ++ L, c0 + mc, s0 + ms⟩,
      ⟨X.admits, X.cas, X.clock, X.frames, X.room, X.hears, X.method, X.code, (X.here.setHeapUsed s₂.heap s₂.slotsUsed).setVm hW'.alike, X.tail, State.WarmedH.trans X.warmed hW', X.limits, X.bytes, X.same.trans (hsame.setVm s.vm)⟩,
      ⟨g, mk, s₂, L, rfl, rfl, hqc, rfl, hL, rfl, rfl⟩, ?_⟩
    show Steps p.tables e below _ ((({ U with heap := s₂.heap, slotsUsed := s₂.slotsUsed } : State).setVm s₂.vm).setTop { g with pc := g.pc + len₂, stack := v.toList ++ g.stack })
    rw [← hs₂]
    exact hsteps
  · obtain ⟨e2, q2, q3, q4, q5, q6⟩ := id hsm
    have e3 : s₂ = ({ (U.calling g mk a).setFrames s₂.frames with heap := s₂.heap, slotsUsed := s₂.slotsUsed } : State).setVm s₂.vm := by
      have : s₂ = ({ s₂ with vm := (U.calling g mk a).vm } : State).setVm s₂.vm := rfl
      rw [e2] at this
      exact this
    have hf₂ : s₂.frames = .throwing q :: .java g :: U.frames.tail := hend
    have hW' : U.WarmedH s₂.vm := hW₂
    have hs₂ : s₂ = ((({ U with heap := s₂.heap, slotsUsed := s₂.slotsUsed } : State).setVm s₂.vm).setTop g).pushFrame (.throwing q) := by
      refine e3.trans ?_
      rw [hf₂, State.calling_eq h.top, State.setFrames_setFrames, State.pushFrame, State.frames_setTop _ hr', State.setTop_of_frames _ hr', State.setFrames_setFrames, hr]
      rfl
    have hsame : U.sameButNew ({ U with heap := s₂.heap, slotsUsed := s₂.slotsUsed } : State) L mc ms := by
      refine ⟨?_, q2, q3, q4, q5, q6⟩
      obtain ⟨t, ht, -⟩ := State.frames_cons hr
      show ({ U with heap := s₂.heap, slotsUsed := s₂.slotsUsed } : State) = { U.setFrames U.frames with heap := s₂.heap, slotsUsed := s₂.slotsUsed }
      rw [State.setFrames_self ht]
    subst hg
    refine Or.inr ⟨q, ⟨(({ U with heap := s₂.heap, slotsUsed := s₂.slotsUsed } : State).setVm s₂.vm), Ls ++ L, c0 + mc, s0 + ms⟩,
      ⟨X.admits, X.cas, X.clock, X.frames, X.room, X.hears, X.method, X.code, (X.here.setHeapUsed s₂.heap s₂.slotsUsed).setVm hW'.alike, X.tail, State.WarmedH.trans X.warmed hW', X.limits, X.bytes, X.same.trans (hsame.setVm s.vm)⟩,
      ⟨g, mk, s₂, L, E, ce, rfl, rfl, hx, hce, hcv, hcl, rfl, hL, rfl, rfl⟩, ?_⟩
    show Steps p.tables e below _ (((({ U with heap := s₂.heap, slotsUsed := s₂.slotsUsed } : State).setVm s₂.vm).setTop g).pushFrame (.throwing q))
    rw [← hs₂]
    exact hsteps
end
variable {p : Program} {l : Launch} {e : Env} {R : Room} {s : State} {m : MethodId} {args : Array Value} {below : List Frame} {meth : Method} {c : Code} {T : State} {H : Heap} {locs : List Loc} {cells slots : Nat}
theorem vx_callVX (X : Stand p l e R s m args below meth c T locs cells slots) (hexec : p.tables.exec = Jvm.exec) {own C : String} {index : Nat} {y : MethodName} {bytes : ByteArray} {maxL : Nat} {ret : Option FieldType} {hh : List (Nat × Nat × Nat × Nat)}
    (hown : s.vm.findClass own = some m.cls) (hlink : (Cond.methodLink own index y).before args s = true) (hinst : (Cond.instanceMethod y).before args s = true) (hsel : (Cond.selects C y y).before args s = true)
    (hcode : (Cond.codeWith y bytes maxL ret hh).before args s = true) (hy : y.cls ≠ "java/lang/invoke/MethodHandle" ∧ y.cls ≠ "java/lang/invoke/VarHandle")
    {W9 : Nat} {Pre : Pt → Array Value → Prop} {Post : Pt → Array Value → Option Value → Pt → Prop} {PostX : Pt → Array Value → Addr → Pt → Prop} (hK : vx_Back l R p e below s args y 3 W9 Pre Post PostX)
    {b : Addr} {cellB : Cell} (hcell : T.heap[b]? = some cellB) (hobj : cellB.vm.isStatics = false) (hcls : s.vm.findClass C = some cellB.cls)
    {g : JFrame} (hg : g.method = m) (hsize : g.locals.size = c.maxLocals) {argsL rest : List Value} (hlen : ∀ sig, parseMethodDescriptor y.desc = some sig → argsL.length = sig.parameters.length)
    (hstack : g.stack = argsL.reverse ++ .ref b :: rest) (hW : 2 * g.monitorRoom + (rest.map fun v => v.category).sum ≤ W9) (hdg : decode c.code g.pc = .ok (.invokevirtual index, 3))
    (hpre : ∀ vm₁, s.WarmedH vm₁ → Pre ⟨T.setVm vm₁, locs, cells, slots⟩ (Value.ref b :: argsL).toArray) :
    (∃ (v : Option Value) (vm₁ : Vm) (B : Pt), s.WarmedH vm₁ ∧ Stand p l e R s m args below meth c B.U B.locs B.cells B.slots ∧ Post ⟨T.setVm vm₁, locs, cells, slots⟩ (Value.ref b :: argsL).toArray v B ∧
      ∀ target, Steps p.tables e below (B.U.setTop { g with pc := g.pc + 3, stack := v.toList ++ rest }) target → Steps p.tables e below (T.setTop g) target) ∨
    (∃ (q : Addr) (vm₁ : Vm) (B : Pt), s.WarmedH vm₁ ∧ Stand p l e R s m args below meth c B.U B.locs B.cells B.slots ∧ PostX ⟨T.setVm vm₁, locs, cells, slots⟩ (Value.ref b :: argsL).toArray q B ∧
      Steps p.tables e below (T.setTop g) ((B.U.setTop { g with stack := rest }).pushFrame (.throwing q))) := by
  obtain ⟨mk, methM, hnamed, hmethM, hstM, habM⟩ := Cond.instanceMethod_spec hinst
  obtain ⟨m8, methM', cM, hn8, hmethM', -, -, -, -, -, -, hsigM⟩ := Cond.codeWith_spec hcode
  cases Option.some.inj (hn8.symm.trans hnamed)
  cases hmethM.symm.trans hmethM'
  obtain ⟨c2, r2, m2, q1, q2, q3, q4, kP, hkP, hkPi⟩ := Cond.selects_spec hsel
  cases hcls.symm.trans q1
  cases (State.methodFound?_of_named hnamed hy).symm.trans q2
  cases hnamed.symm.trans q3
  have hselP : selectMethod e.platform s.vm cellB.cls mk = .method mk := by rw [Launch.admits_selectMethod X.admits]; exact q4
  obtain ⟨vm₁, X₁, hstep₁⟩ := X.invokevirtual hexec hown hlink hnamed hmethM hstM hkP hkPi hy (a := b) (cell := cellB) hcell
    (fun z h => by rw [h] at hobj; cases hobj) hselP hmethM habM hkP hkPi (g := g) hg (argsL := argsL) (rest := rest) (hlen _ hsigM) hstack hdg
  rcases hK m meth c ⟨T.setVm vm₁, locs, cells, slots⟩ { g with stack := rest } (.invokevirtual index) mk (Value.ref b :: argsL).toArray X₁ hg hsize hdg hW (X₁.named hnamed) (hpre vm₁ X₁.warmed) with ⟨v, B, X', hpost, hsteps⟩ | ⟨q, B, X', hpost, hsteps⟩
  · exact Or.inl ⟨v, vm₁, B, X₁.warmed, X', hpost, fun target h => hstep₁ _ fun acts => by rw [doInvoke_state]; exact hsteps.trans h⟩
  · exact Or.inr ⟨q, vm₁, B, X₁.warmed, X', hpost, hstep₁ _ fun acts => by rw [doInvoke_state]; exact hsteps⟩
theorem vx_callSX (X : Stand p l e R s m args below meth c T locs cells slots) (hexec : p.tables.exec = Jvm.exec) {own : String} {index : Nat} {y : MethodName} {bytes : ByteArray} {maxL : Nat} {ret : Option FieldType} {hh : List (Nat × Nat × Nat × Nat)}
    (hown : s.vm.findClass own = some m.cls) (hlink : (Cond.methodLink own index y).before args s = true) (hstat : (Cond.static y).before args s = true) (hinit : (Cond.initialized y.cls).before args s = true)
    (hcode : (Cond.codeWith y bytes maxL ret hh).before args s = true) (hy : y.cls ≠ "java/lang/invoke/MethodHandle" ∧ y.cls ≠ "java/lang/invoke/VarHandle")
    {W9 : Nat} {Pre : Pt → Array Value → Prop} {Post : Pt → Array Value → Option Value → Pt → Prop} {PostX : Pt → Array Value → Addr → Pt → Prop} (hK : vx_Back l R p e below s args y 3 W9 Pre Post PostX)
    {g : JFrame} (hg : g.method = m) (hsize : g.locals.size = c.maxLocals) {argsL rest : List Value} (hlen : ∀ sig, parseMethodDescriptor y.desc = some sig → argsL.length = sig.parameters.length)
    (hstack : g.stack = argsL.reverse ++ rest) (hW : 2 * g.monitorRoom + (rest.map fun v => v.category).sum ≤ W9) (hdg : decode c.code g.pc = .ok (.invokestatic index, 3))
    (hpre : ∀ vm₁, s.WarmedH vm₁ → Pre ⟨T.setVm vm₁, locs, cells, slots⟩ argsL.toArray) :
    (∃ (v : Option Value) (vm₁ : Vm) (B : Pt), s.WarmedH vm₁ ∧ Stand p l e R s m args below meth c B.U B.locs B.cells B.slots ∧ Post ⟨T.setVm vm₁, locs, cells, slots⟩ argsL.toArray v B ∧
      ∀ target, Steps p.tables e below (B.U.setTop { g with pc := g.pc + 3, stack := v.toList ++ rest }) target → Steps p.tables e below (T.setTop g) target) ∨
    (∃ (q : Addr) (vm₁ : Vm) (B : Pt), s.WarmedH vm₁ ∧ Stand p l e R s m args below meth c B.U B.locs B.cells B.slots ∧ PostX ⟨T.setVm vm₁, locs, cells, slots⟩ argsL.toArray q B ∧
      Steps p.tables e below (T.setTop g) ((B.U.setTop { g with stack := rest }).pushFrame (.throwing q))) := by
  obtain ⟨mk, methM, cM, hnamed, hmethM, -, -, -, -, -, -, hsigM⟩ := Cond.codeWith_spec hcode
  have hstatic : methM.isStatic = true := Cond.static_spec hnamed hmethM hstat
  obtain ⟨kP, hkP, -⟩ := className_of_methodNamed hnamed
  have hinitP : kP.init = .initialized := Cond.initialized_spec (findClass_of_methodNamed hnamed) hkP hinit
  obtain ⟨vm₁, X₁, hstep₁⟩ := X.invokestatic hexec hown hlink hnamed hmethM hstatic hkP hinitP hy (g := g) hg (argsL := argsL) (rest := rest) (hlen _ hsigM) hstack hdg
  rcases hK m meth c ⟨T.setVm vm₁, locs, cells, slots⟩ { g with stack := rest } (.invokestatic index) mk argsL.toArray X₁ hg hsize hdg hW (X₁.named hnamed) (hpre vm₁ X₁.warmed) with ⟨v, B, X', hpost, hsteps⟩ | ⟨q, B, X', hpost, hsteps⟩
  · exact Or.inl ⟨v, vm₁, B, X₁.warmed, X', hpost, fun target h => hstep₁ _ fun acts => by rw [doInvoke_state]; exact hsteps.trans h⟩
  · exact Or.inr ⟨q, vm₁, B, X₁.warmed, X', hpost, hstep₁ _ fun acts => by rw [doInvoke_state]; exact hsteps⟩
theorem vx_callVW (X : Stand p l e R s m args below meth c T locs cells slots) (hexec : p.tables.exec = Jvm.exec) {own C : String} {index : Nat} {y : MethodName} {bytes : ByteArray} {maxL : Nat} {ret : Option FieldType} {hh : List (Nat × Nat × Nat × Nat)}
    (hown : s.vm.findClass own = some m.cls) (hlink : (Cond.methodLink own index y).before args s = true) (hinst : (Cond.instanceMethod y).before args s = true) (hsel : (Cond.selects C y y).before args s = true)
    (hcode : (Cond.codeWith y bytes maxL ret hh).before args s = true) (hy : y.cls ≠ "java/lang/invoke/MethodHandle" ∧ y.cls ≠ "java/lang/invoke/VarHandle")
    {W9 : Nat} {Pre : Pt → Array Value → Prop} {Post : Pt → Array Value → Option Value → Pt → Prop} (hK : Back l R p e below s args y 3 W9 Pre Post)
    {b : Addr} {cellB : Cell} (hcell : T.heap[b]? = some cellB) (hobj : cellB.vm.isStatics = false) (hcls : s.vm.findClass C = some cellB.cls)
    {g : JFrame} (hg : g.method = m) (hsize : g.locals.size = c.maxLocals) {argsL rest : List Value} (hlen : ∀ sig, parseMethodDescriptor y.desc = some sig → argsL.length = sig.parameters.length)
    (hstack : g.stack = argsL.reverse ++ .ref b :: rest) (hW : 2 * g.monitorRoom + (rest.map fun v => v.category).sum ≤ W9) (hdg : decode c.code g.pc = .ok (.invokevirtual index, 3))
    (hpre : ∀ vm₁, s.WarmedH vm₁ → Pre ⟨T.setVm vm₁, locs, cells, slots⟩ (Value.ref b :: argsL).toArray) :
    ∃ (v : Option Value) (vm₁ : Vm) (B : Pt), s.WarmedH vm₁ ∧ Stand p l e R s m args below meth c B.U B.locs B.cells B.slots ∧ Post ⟨T.setVm vm₁, locs, cells, slots⟩ (Value.ref b :: argsL).toArray v B ∧
      ∀ target, Steps p.tables e below (B.U.setTop { g with pc := g.pc + 3, stack := v.toList ++ rest }) target → Steps p.tables e below (T.setTop g) target := by
  obtain ⟨mk, methM, hnamed, hmethM, hstM, habM⟩ := Cond.instanceMethod_spec hinst
  obtain ⟨m8, methM', cM, hn8, hmethM', -, -, -, -, -, -, hsigM⟩ := Cond.codeWith_spec hcode
  cases Option.some.inj (hn8.symm.trans hnamed)
  cases hmethM.symm.trans hmethM'
  obtain ⟨c2, r2, m2, q1, q2, q3, q4, kP, hkP, hkPi⟩ := Cond.selects_spec hsel
  cases hcls.symm.trans q1
  cases (State.methodFound?_of_named hnamed hy).symm.trans q2
  cases hnamed.symm.trans q3
  have hselP : selectMethod e.platform s.vm cellB.cls mk = .method mk := by rw [Launch.admits_selectMethod X.admits]; exact q4
  obtain ⟨vm₁, X₁, hstep₁⟩ := X.invokevirtual hexec hown hlink hnamed hmethM hstM hkP hkPi hy (a := b) (cell := cellB) hcell
    (fun z h => by rw [h] at hobj; cases hobj) hselP hmethM habM hkP hkPi (g := g) hg (argsL := argsL) (rest := rest) (hlen _ hsigM) hstack hdg
  obtain ⟨v, B, X', hpost, hsteps⟩ := hK m meth c ⟨T.setVm vm₁, locs, cells, slots⟩ { g with stack := rest } (.invokevirtual index) mk (Value.ref b :: argsL).toArray X₁ hg hsize hdg hW (X₁.named hnamed) (hpre vm₁ X₁.warmed)
  exact ⟨v, vm₁, B, X₁.warmed, X', hpost, fun target h => hstep₁ _ fun acts => by rw [doInvoke_state]; exact hsteps.trans h⟩
abbrev vx_CVW (R : Room) (s : State) (args : Array Value) (own C : String) (index : Nat) (y : MethodName) (bytes : ByteArray) (maxL : Nat) (ret : Option FieldType) (hh : List (Nat × Nat × Nat × Nat)) (ws : List Cond) (rm : Room) (mc ms n : Nat) : Prop :=
  (rm.cells = mc ∧ rm.slots = ms ∧ rm.frames + 1 ≤ R.frames ∧ 8 + (maxL + 11) + rm.locals ≤ R.locals ∧ (∀ w ∈ ws, ∀ (a' : Array Value) (U : State), s.WarmedH U.vm → w.before a' U = true) ∧ Cond.codeWith y bytes maxL ret hh ∈ ws) ∧
  (Cond.codeWith y bytes maxL ret hh).before args s = true ∧ (Cond.initialized y.cls).before args s = true ∧ (y.cls ≠ "java/lang/invoke/MethodHandle" ∧ y.cls ≠ "java/lang/invoke/VarHandle") ∧
  (∀ sig, parseMethodDescriptor y.desc = some sig → n = sig.parameters.length) ∧ (Cond.methodLink own index y).before args s = true ∧ (Cond.instanceMethod y).before args s = true ∧ (Cond.selects C y y).before args s = true
theorem vx_cwVW {own C : String} {index maxL mc ms : Nat} {y : MethodName} {bytes : ByteArray} {ret : Option FieldType} {hh : List (Nat × Nat × Nat × Nat)} {Ts ws ws' : List Cond} {rm : Room} (n : Nat) (ht : ∀ w ∈ Ts, w.before args s = true) (hT : GoodIn Ts (wsV own index C y ws)) (hw : ws = Cond.codeWith y bytes maxL ret hh :: ws') (hrc : rm.cells = mc) (hrs : rm.slots = ms)
    (hd : y.cls = C ∧ y.cls ≠ "java/lang/invoke/MethodHandle" ∧ y.cls ≠ "java/lang/invoke/VarHandle" ∧ (parseMethodDescriptor y.desc).map (fun d => d.parameters.length) = some n) (hR : rm.frames + 1 ≤ R.frames ∧ 8 + (maxL + 11) + rm.locals ≤ R.locals) :
    vx_CVW R s args own C index y bytes maxL ret hh ws rm mc ms n := by
  obtain ⟨hC, hd⟩ := hd
  subst hC
  have ok : ∀ w ∈ wsV own index y.cls y ws, w.before args s = true := fun w h => ht w (hT w h).1
  have hG : GoodIn Ts ws := fun w h => hT w (by unfold wsV; exact List.mem_append_right _ h)
  have hc : Cond.codeWith y bytes maxL ret hh ∈ ws := by rw [hw]; exact List.mem_cons_self
  refine ⟨⟨hrc, hrs, hR.1, hR.2, pay_in ht hG, hc⟩, ht _ (hG _ hc).1, ok _ (by simp [wsV]), ⟨hd.1, hd.2.1⟩, fun sig h => ?_, ok _ (by simp [wsV]), ok _ (by simp [wsV]), ok _ (by simp [wsV])⟩
  have h2 := hd.2.2
  rw [h] at h2
  exact (Option.some.inj h2).symm
theorem vx_runVW {y : MethodName} {bytes cc : ByteArray} {maxL nL mc ms n index : Nat} {ret : Option FieldType} {hh : List (Nat × Nat × Nat × Nat)} {ws : List Cond} {rm : Room} {Pc : Array Value → State → Prop} {Qc : Array Value → State → Outcome → State → Prop} {free : Addr → Prop} {Ts : List Cond} {own C : String} {b : Addr} {As rest : List Value} {g : JFrame}
    (S : CallFix p m c cc nL s args Ts own) (hM : Met l y ws rm Pc Qc mc ms free) (cw : vx_CVW R s args own C index y bytes maxL ret hh ws rm mc ms n) (hp : PreV s H C b Pc As)
    (hg : g.method = m) (hn : As.length = n) (hsize : g.locals.size = nL) (hstack : g.stack = As.reverse ++ .ref b :: rest) (hW : 2 * g.monitorRoom + (rest.map fun v => v.category).sum ≤ 8) (hdg : decode cc g.pc = .ok (.invokevirtual index, 3)) (hf : cells + mc ≤ R.cells ∧ slots + ms ≤ R.slots) :
    va_Run p l e R s m args below meth c H locs cells slots mc ms g rest (Qc (Value.ref b :: As).toArray) free := by
  obtain ⟨⟨hrc, hrs, hfr, hlo, hws, hcw⟩, hcode, hini, hy, hlen, hl, hin, hse⟩ := cw
  have hK : Back l R p e below s args y 3 8 (PreOf R mc ms Pc) (PostOf Qc mc ms free) := va_backW (hh := hh) (bytes := bytes) (maxL := maxL) (ret := ret) hM hp.1 hrc hrs hfr hlo hws hcw (fun a' U hW => word_at hW (Or.inl (by first | rfl | simp [Cond.onTables, Cond.keeps, Cond.steady])) hini)
  obtain ⟨hx, hb, hml, ho, -⟩ := S
  obtain ⟨-, ⟨cellB, hcB, hoB, hclB⟩, hPc⟩ := hp
  intro T hT X
  obtain ⟨v, vm₁, ⟨U', l2, c2, s2⟩, hW₁, X', ⟨g', mk, t, L, e1, e2, hq, h1, hL, h2, h3⟩, st⟩ := vx_callVW X hx (C := C) (hh := hh) (bytes := bytes) (maxL := maxL) (ret := ret) ho hl hin hse hcode hy hK (by rw [hT]; exact hcB) hoB hclB hg (hsize.trans hml.symm) (argsL := As) (rest := rest) (fun sig h => hn.trans (hlen sig h)) hstack hW (by rw [hb]; exact hdg)
    (fun vm₁ hW₁ => ⟨hf.1, hf.2, hPc (T.setVm vm₁) hT hW₁⟩)
  dsimp only [Pt.U, Pt.locs, Pt.cells, Pt.slots] at X' e1 e2 h1 h2 h3 st
  subst h1; subst h2; subst h3
  exact ⟨v, (T.setVm vm₁).calling g' mk (Value.ref b :: As).toArray, t, U', L, hT, X', hL, e1, e2, hq, st⟩
section
variable {y : MethodName} {bytes cc : ByteArray} {maxL nL mc ms n index : Nat} {ret : Option FieldType} {ws : List Cond} {rm : Room} {Pc : Array Value → State → Prop} {Qc : Array Value → State → Outcome → State → Prop} {XC : String → State → State → Prop} {free : Addr → Prop} {Ts : List Cond} {own C : String} {b : Addr} {As rest : List Value} {g : JFrame}
theorem vx_runVX {hh : List (Nat × Nat × Nat × Nat)} (S : CallFix p m c cc nL s args Ts own) (hM : vx_Met l y ws rm Pc Qc XC mc ms free) (cw : vx_CVW R s args own C index y bytes maxL ret hh ws rm mc ms n) (hp : PreV s H C b Pc As)
    (hg : g.method = m) (hn : As.length = n) (hsize : g.locals.size = nL) (hstack : g.stack = As.reverse ++ .ref b :: rest) (hW : 2 * g.monitorRoom + (rest.map fun v => v.category).sum ≤ 8) (hdg : decode cc g.pc = .ok (.invokevirtual index, 3)) (hf : cells + mc ≤ R.cells ∧ slots + ms ≤ R.slots) :
    vx_Run p l e R s m args below meth c H locs cells slots mc ms g rest (Qc (Value.ref b :: As).toArray) XC free := by
  obtain ⟨⟨hrc, hrs, hfr, hlo, hws, hcw⟩, hcode, hini, hy, hlen, hl, hin, hse⟩ := cw
  have hK : vx_Back l R p e below s args y 3 8 (PreOf R mc ms Pc) (PostOf Qc mc ms free) (vx_Post XC mc ms free) := vx_backW (hh := hh) (bytes := bytes) (maxL := maxL) (ret := ret) hM hp.1 hrc hrs hfr hlo hws hcw (fun a' U hW => word_at hW (Or.inl (by first | rfl | simp [Cond.onTables, Cond.keeps, Cond.steady])) hini)
  obtain ⟨hx, hb, hml, ho, -⟩ := S
  obtain ⟨-, ⟨cellB, hcB, hoB, hclB⟩, hPc⟩ := hp
  intro T hT X
  rcases vx_callVX X hx (C := C) (hh := hh) (bytes := bytes) (maxL := maxL) (ret := ret) ho hl hin hse hcode hy hK (by rw [hT]; exact hcB) hoB hclB hg (hsize.trans hml.symm) (argsL := As) (rest := rest) (fun sig h => hn.trans (hlen sig h)) hstack hW (by rw [hb]; exact hdg)
    (fun vm₁ hW₁ => ⟨hf.1, hf.2, hPc (T.setVm vm₁) hT hW₁⟩) with ⟨v, vm₁, ⟨U', l2, c2, s2⟩, hW₁, X', ⟨g', mk, t, L, e1, e2, hq, h1, hL, h2, h3⟩, st⟩ | ⟨q, vm₁, ⟨U', l2, c2, s2⟩, hW₁, X', ⟨g', mk, t, L, E, ce, e1, e2, hq, hce, hcv, hcl, h1, hL, h2, h3⟩, st⟩
  · dsimp only [Pt.U, Pt.locs, Pt.cells, Pt.slots] at X' e1 e2 h1 h2 h3 st
    subst h1; subst h2; subst h3
    exact Or.inl ⟨v, (T.setVm vm₁).calling g' mk (Value.ref b :: As).toArray, t, U', L, hT, X', hL, e1, e2, hq, st⟩
  · dsimp only [Pt.U, Pt.locs, Pt.cells, Pt.slots] at X' e1 e2 h1 h2 h3 st hcl
    subst h1; subst h2; subst h3
    exact Or.inr ⟨q, (T.setVm vm₁).calling g' mk (Value.ref b :: As).toArray, t, U', L, E, ce, hT, X', hL, e1, e2, hq, hce, hcv, vx_cls hW₁ hcl, st⟩
theorem vx_runSX {hh : List (Nat × Nat × Nat × Nat)} (S : CallFix p m c cc nL s args Ts own) (hM : vx_Met l y ws rm Pc Qc XC mc ms free) (cw : vx_CSW R s args own index y bytes maxL ret hh ws rm mc ms n) (hp : PreS s H Pc As)
    (hg : g.method = m) (hn : As.length = n) (hsize : g.locals.size = nL) (hstack : g.stack = As.reverse ++ rest) (hW : 2 * g.monitorRoom + (rest.map fun v => v.category).sum ≤ 8) (hdg : decode cc g.pc = .ok (.invokestatic index, 3)) (hf : cells + mc ≤ R.cells ∧ slots + ms ≤ R.slots) :
    vx_Run p l e R s m args below meth c H locs cells slots mc ms g rest (Qc As.toArray) XC free := by
  obtain ⟨⟨hrc, hrs, hfr, hlo, hws, hcw⟩, hcode, hini, hy, hlen, hl, hstt⟩ := cw
  have hK : vx_Back l R p e below s args y 3 8 (PreOf R mc ms Pc) (PostOf Qc mc ms free) (vx_Post XC mc ms free) := vx_backW (hh := hh) (bytes := bytes) (maxL := maxL) (ret := ret) hM hp.1 hrc hrs hfr hlo hws hcw (fun a' U hW => word_at hW (Or.inl (by first | rfl | simp [Cond.onTables, Cond.keeps, Cond.steady])) hini)
  obtain ⟨hx, hb, hml, ho, -⟩ := S
  intro T hT X
  rcases vx_callSX X hx (hh := hh) (bytes := bytes) (maxL := maxL) (ret := ret) ho hl hstt hini hcode hy hK hg (hsize.trans hml.symm) (argsL := As) (rest := rest) (fun sig h => hn.trans (hlen sig h)) hstack hW (by rw [hb]; exact hdg)
    (fun vm₁ hW₁ => ⟨hf.1, hf.2, hp.2 (T.setVm vm₁) hT hW₁⟩) with ⟨v, vm₁, ⟨U', l2, c2, s2⟩, hW₁, X', ⟨g', mk, t, L, e1, e2, hq, h1, hL, h2, h3⟩, st⟩ | ⟨q, vm₁, ⟨U', l2, c2, s2⟩, hW₁, X', ⟨g', mk, t, L, E, ce, e1, e2, hq, hce, hcv, hcl, h1, hL, h2, h3⟩, st⟩
  · dsimp only [Pt.U, Pt.locs, Pt.cells, Pt.slots] at X' e1 e2 h1 h2 h3 st
    subst h1; subst h2; subst h3
    exact Or.inl ⟨v, (T.setVm vm₁).calling g' mk As.toArray, t, U', L, hT, X', hL, e1, e2, hq, st⟩
  · dsimp only [Pt.U, Pt.locs, Pt.cells, Pt.slots] at X' e1 e2 h1 h2 h3 st hcl
    subst h1; subst h2; subst h3
    exact Or.inr ⟨q, (T.setVm vm₁).calling g' mk As.toArray, t, U', L, E, ce, hT, X', hL, e1, e2, hq, hce, hcv, vx_cls hW₁ hcl, st⟩
end
end VXH
theorem vx_ofWH {l : Launch} {y : MethodName} {ws ws' : List Cond} {rm : Room} {Pc : Array Value → State → Prop} {Qc : Array Value → State → Outcome → State → Prop} {XC : String → State → State → Prop} {mc ms : Nat} {free : Addr → Prop} {cc : ByteArray} {maxL : Nat} {ret : Option FieldType} {hh : List (Nat × Nat × Nat × Nat)}
    (hy : plainName y.cls = true) (hw : ws = Cond.codeWith y cc maxL ret hh :: ws')
    (body : ∀ p e s m args below meth c s₁, BodyLoose p l y (headSpec ws rm) cc maxL ret e s m args below meth c s₁ → c.maxLocals = maxL → Pc args s →
      W p l e (headSpec ws rm).room s m args below meth c s.heap [] 0 0 (vx_MQ below Qc XC args s mc ms free) (entryFrame m args maxL)) : vx_Met l y ws rm Pc Qc XC mc ms free := by
  refine MetFree.of_bodyS (code := cc) (maxLocals := maxL) (ret := ret) hy ?_ ?_
  · intro args s m h hn
    obtain ⟨m9, meth, c, hn9, h1, h2, h3, h4, -, h5, h6, -⟩ := Cond.codeWith_spec (atoms_spec (ws := ws) h _ (by rw [hw]; exact List.mem_cons_self))
    cases hn.symm.trans hn9
    exact ⟨meth, c, h1, h2, h3, h4, h5, h6⟩
  · intro p e s m args below meth c s₁ B hml hP _
    have hh0 : s₁.heap = s.heap := by rw [B.state]; rfl
    obtain ⟨t, a1, o, b1, b2, b3⟩ := body p e s m args below meth c s₁ B hml hP s₁ hh0 (Stand.of_body B)
    exact ⟨t, o, a1, b1, b2, b3⟩
/-! ===== END ===== -/
end
section
def RX0 : String := "RootDuel$Contest"
def TX0 : u_T := fun k => match k with
  | 0 => ("RootDuel$Contest", "settings", "[I", true)
  | 1 => ("RootDuel$Contest", "polynomial", "[I", true)
  | 2 => ("RootDuel$Contest", "laid", "[I", true)
  | 3 => ("RootDuel$Contest", "laidOn", "[I", true)
  | 4 => ("RootDuel$Contest", "claims", "[I", true)
  | 5 => ("RootDuel$Contest", "claimCount", "[I", true)
  | 6 => ("RootDuel$Contest", "turns", "I", false)
  | 7 => ("RootDuel$Contest", "over", "Z", false)
  | _ => ("RootDuel$Contest", "bonusPlayer", "I", false)
def tyX0 : Nat → FieldType := fun k => match k with
  | 0 => .array .int
  | 1 => .array .int
  | 2 => .array .int
  | 3 => .array .int
  | 4 => .array .int
  | 5 => .array .int
  | 6 => .int
  | 7 => .boolean
  | _ => .int
abbrev wsX00 : List Cond := u_ws RX0 TX0 9
theorem nmX0 : ∀ a, a < 9 → ∀ b, b < 9 → a ≠ b → (TX0 a).2.1 ≠ (TX0 b).2.1 := by decide +kernel
theorem tyX0_ok : ∀ k, k < 9 → parseFieldDescriptor (TX0 k).2.2.1 = some (tyX0 k) := by decide +kernel
abbrev cX0_init : ByteArray := prog_2_method_1_code
def yX0_init : MethodName := ⟨RX0, "<init>", "()V"⟩
abbrev cX0_begin : ByteArray := prog_2_method_2_code
def yX0_begin : MethodName := ⟨RX0, "begin", "()V"⟩
abbrev cX0_copyFrom : ByteArray := prog_2_method_3_code
def yX0_copyFrom : MethodName := ⟨RX0, "copyFrom", "(LRootDuel$Contest;)V"⟩
abbrev cX0_mover : ByteArray := prog_2_method_4_code
def yX0_mover : MethodName := ⟨RX0, "mover", "()I"⟩
abbrev cX0_hasPower : ByteArray := prog_2_method_5_code
def yX0_hasPower : MethodName := ⟨RX0, "hasPower", "(I)Z"⟩
abbrev cX0_lastTurnOn : ByteArray := prog_2_method_6_code
def yX0_lastTurnOn : MethodName := ⟨RX0, "lastTurnOn", "(I)I"⟩
abbrev cX0_termsOn : ByteArray := prog_2_method_7_code
def yX0_termsOn : MethodName := ⟨RX0, "termsOn", "(I)I"⟩
abbrev cX0_termsOf : ByteArray := prog_2_method_8_code
def yX0_termsOf : MethodName := ⟨RX0, "termsOf", "(I)I"⟩
abbrev cX0_termsLaid : ByteArray := prog_2_method_9_code
def yX0_termsLaid : MethodName := ⟨RX0, "termsLaid", "()I"⟩
abbrev cX0_isBarred : ByteArray := prog_2_method_10_code
def yX0_isBarred : MethodName := ⟨RX0, "isBarred", "(I)Z"⟩
abbrev cX0_barredPowers : ByteArray := prog_2_method_11_code
def yX0_barredPowers : MethodName := ⟨RX0, "barredPowers", "()I"⟩
abbrev cX0_refusalOfTerm : ByteArray := prog_2_method_12_code
def yX0_refusalOfTerm : MethodName := ⟨RX0, "refusalOfTerm", "(II)I"⟩
abbrev cX0_coefficientOf : ByteArray := prog_2_method_13_code
def yX0_coefficientOf : MethodName := ⟨RX0, "coefficientOf", "(I)I"⟩
abbrev cX0_isZeroBut : ByteArray := prog_2_method_14_code
def yX0_isZeroBut : MethodName := ⟨RX0, "isZeroBut", "(I)Z"⟩
abbrev cX0_endTurn : ByteArray := prog_2_method_15_code
def yX0_endTurn : MethodName := ⟨RX0, "endTurn", "(IILRootDuel$SignRows;)V"⟩
abbrev cX0_isGoalReached : ByteArray := prog_2_method_16_code
def yX0_isGoalReached : MethodName := ⟨RX0, "isGoalReached", "(LRootDuel$SignRows;)Z"⟩
abbrev cX0_endsWithTwoPasses : ByteArray := prog_2_method_17_code
def yX0_endsWithTwoPasses : MethodName := ⟨RX0, "endsWithTwoPasses", "()Z"⟩
abbrev cX0_claimField : ByteArray := prog_2_method_19_code
def yX0_claimField : MethodName := ⟨RX0, "claimField", "(III)I"⟩
abbrev cX0_claimsOf : ByteArray := prog_2_method_20_code
def yX0_claimsOf : MethodName := ⟨RX0, "claimsOf", "(I)I"⟩
abbrev cX0_hasClaimNow : ByteArray := prog_2_method_21_code
def yX0_hasClaimNow : MethodName := ⟨RX0, "hasClaimNow", "()Z"⟩
abbrev cX0_stakes : ByteArray := prog_2_method_22_code
def yX0_stakes : MethodName := ⟨RX0, "stakes", "(I)I"⟩
abbrev cX0_refusalOfClaim : ByteArray := prog_2_method_23_code
def yX0_refusalOfClaim : MethodName := ⟨RX0, "refusalOfClaim", "(III)I"⟩
abbrev cX0_overlaps : ByteArray := prog_2_method_24_code
def yX0_overlaps : MethodName := ⟨RX0, "overlaps", "(III)Z"⟩
abbrev cX0_addClaim : ByteArray := prog_2_method_25_code
def yX0_addClaim : MethodName := ⟨RX0, "addClaim", "(IIIII)V"⟩
abbrev cX0_isRight : ByteArray := prog_2_method_26_code
def yX0_isRight : MethodName := ⟨RX0, "isRight", "(IILRootDuel$SignRows;)Z"⟩
abbrev cX0_rightClaims : ByteArray := prog_2_method_27_code
def yX0_rightClaims : MethodName := ⟨RX0, "rightClaims", "(ILRootDuel$SignRows;)I"⟩
abbrev cX0_claimPoints : ByteArray := prog_2_method_28_code
def yX0_claimPoints : MethodName := ⟨RX0, "claimPoints", "(ILRootDuel$SignRows;)I"⟩
abbrev cX0_signPoints : ByteArray := prog_2_method_29_code
def yX0_signPoints : MethodName := ⟨RX0, "signPoints", "(I)I"⟩
abbrev cX0_bonusPoints : ByteArray := prog_2_method_30_code
def yX0_bonusPoints : MethodName := ⟨RX0, "bonusPoints", "(I)I"⟩
abbrev cX0_score : ByteArray := prog_2_method_31_code
def yX0_score : MethodName := ⟨RX0, "score", "(ILRootDuel$SignRows;)I"⟩
abbrev cX0_valueAt : ByteArray := prog_2_method_32_code
def yX0_valueAt : MethodName := ⟨RX0, "valueAt", "(I)J"⟩
def RX1 : String := "RootDuel$Page"
def TX1 : u_T := fun k => match k with
  | 0 => ("RootDuel$Page", "bytes", "[B", true)
  | _ => ("RootDuel$Page", "length", "I", false)
def tyX1 : Nat → FieldType := fun k => match k with
  | 0 => .array .byte
  | _ => .int
abbrev wsX10 : List Cond := u_ws RX1 TX1 2
theorem nmX1 : ∀ a, a < 2 → ∀ b, b < 2 → a ≠ b → (TX1 a).2.1 ≠ (TX1 b).2.1 := by decide +kernel
theorem tyX1_ok : ∀ k, k < 2 → parseFieldDescriptor (TX1 k).2.2.1 = some (tyX1 k) := by decide +kernel
abbrev cX1_init : ByteArray := prog_3_method_1_code
def yX1_init : MethodName := ⟨RX1, "<init>", "()V"⟩
abbrev cX1_begin : ByteArray := prog_3_method_2_code
def yX1_begin : MethodName := ⟨RX1, "begin", "()V"⟩
abbrev cX1_putSign : ByteArray := prog_3_method_3_code
def yX1_putSign : MethodName := ⟨RX1, "putSign", "(C)V"⟩
abbrev cX1_putText : ByteArray := prog_3_method_4_code
def yX1_putText : MethodName := ⟨RX1, "putText", "(Ljava/lang/String;)V"⟩
abbrev cX1_putNumber : ByteArray := prog_3_method_5_code
def yX1_putNumber : MethodName := ⟨RX1, "putNumber", "(I)V"⟩
abbrev cX1_putSpaced : ByteArray := prog_3_method_6_code
def yX1_putSpaced : MethodName := ⟨RX1, "putSpaced", "(I)V"⟩
abbrev cX1_putTerm : ByteArray := prog_3_method_9_code
def yX1_putTerm : MethodName := ⟨RX1, "putTerm", "(II)V"⟩
abbrev cX1_putClaims : ByteArray := prog_3_method_10_code
def yX1_putClaims : MethodName := ⟨RX1, "putClaims", "(LRootDuel$Contest;I)V"⟩
abbrev cX1_putClaim : ByteArray := prog_3_method_11_code
def yX1_putClaim : MethodName := ⟨RX1, "putClaim", "(LRootDuel$Contest;II)V"⟩
def RX2 : String := "RootDuel$Reader"
def TX2 : u_T := fun k => match k with
  | 0 => ("RootDuel$Reader", "text", "[B", true)
  | 1 => ("RootDuel$Reader", "commands", "[I", true)
  | 2 => ("RootDuel$Reader", "length", "I", false)
  | 3 => ("RootDuel$Reader", "error", "I", false)
  | 4 => ("RootDuel$Reader", "errorAt", "I", false)
  | 5 => ("RootDuel$Reader", "parts", "I", false)
  | 6 => ("RootDuel$Reader", "kind", "I", false)
  | 7 => ("RootDuel$Reader", "start", "I", false)
  | 8 => ("RootDuel$Reader", "end", "I", false)
  | 9 => ("RootDuel$Reader", "number", "I", false)
  | 10 => ("RootDuel$Reader", "accepted", "I", false)
  | 11 => ("RootDuel$Reader", "toldSettings", "I", false)
  | _ => ("RootDuel$Reader", "toldStarts", "I", false)
def tyX2 : Nat → FieldType := fun k => match k with
  | 0 => .array .byte
  | 1 => .array .int
  | 2 => .int
  | 3 => .int
  | 4 => .int
  | 5 => .int
  | 6 => .int
  | 7 => .int
  | 8 => .int
  | 9 => .int
  | 10 => .int
  | 11 => .int
  | _ => .int
abbrev wsX20 : List Cond := u_ws RX2 TX2 13
theorem nmX2 : ∀ a, a < 13 → ∀ b, b < 13 → a ≠ b → (TX2 a).2.1 ≠ (TX2 b).2.1 := by decide +kernel
theorem tyX2_ok : ∀ k, k < 13 → parseFieldDescriptor (TX2 k).2.2.1 = some (tyX2 k) := by decide +kernel
abbrev cX2_init : ByteArray := prog_4_method_1_code
def yX2_init : MethodName := ⟨RX2, "<init>", "()V"⟩
abbrev cX2_hasRoom : ByteArray := prog_4_method_2_code
def yX2_hasRoom : MethodName := ⟨RX2, "hasRoom", "(I)Z"⟩
abbrev cX2_append : ByteArray := prog_4_method_3_code
def yX2_append : MethodName := ⟨RX2, "append", "(B)V"⟩
abbrev cX2_kindAt : ByteArray := prog_4_method_4_code
def yX2_kindAt : MethodName := ⟨RX2, "kindAt", "(I)I"⟩
abbrev cX2_nextToken : ByteArray := prog_4_method_5_code
def yX2_nextToken : MethodName := ⟨RX2, "nextToken", "()V"⟩
abbrev cX2_isWord : ByteArray := prog_4_method_6_code
def yX2_isWord : MethodName := ⟨RX2, "isWord", "(Ljava/lang/String;)Z"⟩
abbrev cX2_beginText : ByteArray := prog_4_method_7_code
def yX2_beginText : MethodName := ⟨RX2, "beginText", "()V"⟩
abbrev cX2_fail : ByteArray := prog_4_method_8_code
def yX2_fail : MethodName := ⟨RX2, "fail", "(I)Z"⟩
abbrev cX2_readSemicolon : ByteArray := prog_4_method_9_code
def yX2_readSemicolon : MethodName := ⟨RX2, "readSemicolon", "()Z"⟩
abbrev cX2_readNumber : ByteArray := prog_4_method_10_code
def yX2_readNumber : MethodName := ⟨RX2, "readNumber", "(II)Z"⟩
abbrev cX2_readInteger : ByteArray := prog_4_method_11_code
def yX2_readInteger : MethodName := ⟨RX2, "readInteger", "(II)Z"⟩
abbrev cX2_readSetup : ByteArray := prog_4_method_12_code
def yX2_readSetup : MethodName := ⟨RX2, "readSetup", "(LRootDuel$Contest;)Z"⟩
abbrev cX2_readStatement : ByteArray := prog_4_method_13_code
def yX2_readStatement : MethodName := ⟨RX2, "readStatement", "(LRootDuel$Contest;)Z"⟩
abbrev cX2_settingOfWord : ByteArray := prog_4_method_14_code
def yX2_settingOfWord : MethodName := ⟨RX2, "settingOfWord", "()I"⟩
abbrev cX2_readSetting : ByteArray := prog_4_method_15_code
def yX2_readSetting : MethodName := ⟨RX2, "readSetting", "(LRootDuel$Contest;I)Z"⟩
abbrev cX2_readStart : ByteArray := prog_4_method_16_code
def yX2_readStart : MethodName := ⟨RX2, "readStart", "(LRootDuel$Contest;)Z"⟩
abbrev cX2_argument : ByteArray := prog_4_method_17_code
def yX2_argument : MethodName := ⟨RX2, "argument", "(II)I"⟩
abbrev cX2_keep : ByteArray := prog_4_method_18_code
def yX2_keep : MethodName := ⟨RX2, "keep", "(II)Z"⟩
abbrev cX2_readScript : ByteArray := prog_4_method_19_code
def yX2_readScript : MethodName := ⟨RX2, "readScript", "(I)Z"⟩
abbrev cX2_readCommand : ByteArray := prog_4_method_20_code
def yX2_readCommand : MethodName := ⟨RX2, "readCommand", "(I)Z"⟩
abbrev cX2_actOfWord : ByteArray := prog_4_method_21_code
def yX2_actOfWord : MethodName := ⟨RX2, "actOfWord", "()I"⟩
abbrev cX2_readTerm : ByteArray := prog_4_method_22_code
def yX2_readTerm : MethodName := ⟨RX2, "readTerm", "(I)Z"⟩
abbrev cX2_readClaim : ByteArray := prog_4_method_23_code
def yX2_readClaim : MethodName := ⟨RX2, "readClaim", "()Z"⟩
def RX3 : String := "RootDuel$SignRows"
def TX3 : u_T := fun k => match k with
  | 0 => ("RootDuel$SignRows", "rows", "[[J", true)
  | 1 => ("RootDuel$SignRows", "degrees", "[I", true)
  | 2 => ("RootDuel$SignRows", "work", "[J", true)
  | _ => ("RootDuel$SignRows", "total", "I", false)
def tyX3 : Nat → FieldType := fun k => match k with
  | 0 => .array (.array .long)
  | 1 => .array .int
  | 2 => .array .long
  | _ => .int
abbrev wsX30 : List Cond := u_ws RX3 TX3 4
theorem nmX3 : ∀ a, a < 4 → ∀ b, b < 4 → a ≠ b → (TX3 a).2.1 ≠ (TX3 b).2.1 := by decide +kernel
theorem tyX3_ok : ∀ k, k < 4 → parseFieldDescriptor (TX3 k).2.2.1 = some (tyX3 k) := by decide +kernel
abbrev cX3_init : ByteArray := prog_5_method_1_code
def yX3_init : MethodName := ⟨RX3, "<init>", "()V"⟩
abbrev cX3_take : ByteArray := prog_5_method_2_code
def yX3_take : MethodName := ⟨RX3, "take", "([I)V"⟩
abbrev cX3_descend : ByteArray := prog_5_method_3_code
def yX3_descend : MethodName := ⟨RX3, "descend", "()V"⟩
abbrev cX3_build : ByteArray := prog_5_method_4_code
def yX3_build : MethodName := ⟨RX3, "build", "()V"⟩
abbrev cX3_addWork : ByteArray := prog_5_method_5_code
def yX3_addWork : MethodName := ⟨RX3, "addWork", "()Z"⟩
abbrev cX3_derive : ByteArray := prog_5_method_6_code
def yX3_derive : MethodName := ⟨RX3, "derive", "()V"⟩
abbrev cX3_divide : ByteArray := prog_5_method_7_code
def yX3_divide : MethodName := ⟨RX3, "divide", "()V"⟩
abbrev cX3_cancel : ByteArray := prog_5_method_8_code
def yX3_cancel : MethodName := ⟨RX3, "cancel", "(I[JI)V"⟩
abbrev cX3_signOfSum : ByteArray := prog_5_method_9_code
def yX3_signOfSum : MethodName := ⟨RX3, "signOfSum", "(JJJJ)I"⟩
abbrev cX3_reduce : ByteArray := prog_5_method_10_code
def yX3_reduce : MethodName := ⟨RX3, "reduce", "()V"⟩
abbrev cX3_signAt : ByteArray := prog_5_method_12_code
def yX3_signAt : MethodName := ⟨RX3, "signAt", "(II)I"⟩
abbrev cX3_changesAt : ByteArray := prog_5_method_13_code
def yX3_changesAt : MethodName := ⟨RX3, "changesAt", "(I)I"⟩
abbrev cX3_changesAbove : ByteArray := prog_5_method_14_code
def yX3_changesAbove : MethodName := ⟨RX3, "changesAbove", "(II)I"⟩
abbrev cX3_signAbove : ByteArray := prog_5_method_15_code
def yX3_signAbove : MethodName := ⟨RX3, "signAbove", "(III)I"⟩
abbrev cX3_distinctBetween : ByteArray := prog_5_method_16_code
def yX3_distinctBetween : MethodName := ⟨RX3, "distinctBetween", "(II)I"⟩
abbrev cX3_allDistinct : ByteArray := prog_5_method_17_code
def yX3_allDistinct : MethodName := ⟨RX3, "allDistinct", "()I"⟩
abbrev cX3_countedBetween : ByteArray := prog_5_method_18_code
def yX3_countedBetween : MethodName := ⟨RX3, "countedBetween", "(II)I"⟩
abbrev cX3_below : ByteArray := prog_5_method_19_code
def yX3_below : MethodName := ⟨RX3, "below", "(II)I"⟩
def RX4 : String := "RootDuel"
def TX4 : u_T := fun k => match k with
  | 0 => ("RootDuel", "contest", "LRootDuel$Contest;", true)
  | 1 => ("RootDuel", "trial", "LRootDuel$Contest;", true)
  | 2 => ("RootDuel", "saved", "[LRootDuel$Contest;", true)
  | 3 => ("RootDuel", "signRows", "LRootDuel$SignRows;", true)
  | 4 => ("RootDuel", "reader", "LRootDuel$Reader;", true)
  | 5 => ("RootDuel", "page", "LRootDuel$Page;", true)
  | 6 => ("RootDuel", "accounts", "[I", true)
  | 7 => ("RootDuel", "shifted", "[J", true)
  | _ => ("RootDuel", "undoable", "I", false)
def tyX4 : Nat → FieldType := fun k => match k with
  | 0 => .object "RootDuel$Contest"
  | 1 => .object "RootDuel$Contest"
  | 2 => .array (.object "RootDuel$Contest")
  | 3 => .object "RootDuel$SignRows"
  | 4 => .object "RootDuel$Reader"
  | 5 => .object "RootDuel$Page"
  | 6 => .array .int
  | 7 => .array .long
  | _ => .int
abbrev wsX40 : List Cond := u_ws RX4 TX4 9
theorem nmX4 : ∀ a, a < 9 → ∀ b, b < 9 → a ≠ b → (TX4 a).2.1 ≠ (TX4 b).2.1 := by decide +kernel
theorem tyX4_ok : ∀ k, k < 9 → parseFieldDescriptor (TX4 k).2.2.1 = some (tyX4 k) := by decide +kernel
abbrev cX4_init : ByteArray := prog_1_method_1_code
def yX4_init : MethodName := ⟨RX4, "<init>", "()V"⟩
abbrev cX4_appendText : ByteArray := prog_1_method_2_code
def yX4_appendText : MethodName := ⟨RX4, "appendText", "(I)I"⟩
abbrev cX4_truncateText : ByteArray := prog_1_method_3_code
def yX4_truncateText : MethodName := ⟨RX4, "truncateText", "(I)I"⟩
abbrev cX4_load : ByteArray := prog_1_method_4_code
def yX4_load : MethodName := ⟨RX4, "load", "()I"⟩
abbrev cX4_play : ByteArray := prog_1_method_5_code
def yX4_play : MethodName := ⟨RX4, "play", "()I"⟩
abbrev cX4_count : ByteArray := prog_1_method_8_code
def yX4_count : MethodName := ⟨RX4, "count", "(I)I"⟩
abbrev cX4_power : ByteArray := prog_1_method_9_code
def yX4_power : MethodName := ⟨RX4, "power", "(II)I"⟩
abbrev cX4_player : ByteArray := prog_1_method_11_code
def yX4_player : MethodName := ⟨RX4, "player", "(II)I"⟩
abbrev cX4_winner : ByteArray := prog_1_method_12_code
def yX4_winner : MethodName := ⟨RX4, "winner", "()I"⟩
abbrev cX4_claim : ByteArray := prog_1_method_14_code
def yX4_claim : MethodName := ⟨RX4, "claim", "(IIIZI)I"⟩
abbrev cX4_lay : ByteArray := prog_1_method_15_code
def yX4_lay : MethodName := ⟨RX4, "lay", "(II)I"⟩
abbrev cX4_pass : ByteArray := prog_1_method_16_code
def yX4_pass : MethodName := ⟨RX4, "pass", "()I"⟩
abbrev cX4_why : ByteArray := prog_1_method_17_code
def yX4_why : MethodName := ⟨RX4, "why", "(II)I"⟩
abbrev cX4_best : ByteArray := prog_1_method_18_code
def yX4_best : MethodName := ⟨RX4, "best", "()I"⟩
abbrev cX4_behind : ByteArray := prog_1_method_19_code
def yX4_behind : MethodName := ⟨RX4, "behind", "(III)I"⟩
abbrev cX4_degree : ByteArray := prog_1_method_20_code
def yX4_degree : MethodName := ⟨RX4, "degree", "()I"⟩
abbrev cX4_value : ByteArray := prog_1_method_21_code
def yX4_value : MethodName := ⟨RX4, "value", "(I)J"⟩
abbrev cX4_roots : ByteArray := prog_1_method_22_code
def yX4_roots : MethodName := ⟨RX4, "roots", "(II)I"⟩
abbrev cX4_allRoots : ByteArray := prog_1_method_23_code
def yX4_allRoots : MethodName := ⟨RX4, "allRoots", "()I"⟩
abbrev cX4_rootsOfSign : ByteArray := prog_1_method_24_code
def yX4_rootsOfSign : MethodName := ⟨RX4, "rootsOfSign", "(I)I"⟩
abbrev cX4_multiplicity : ByteArray := prog_1_method_25_code
def yX4_multiplicity : MethodName := ⟨RX4, "multiplicity", "(I)I"⟩
abbrev cX4_near : ByteArray := prog_1_method_26_code
def yX4_near : MethodName := ⟨RX4, "near", "(II)I"⟩
abbrev cX4_root : ByteArray := prog_1_method_27_code
def yX4_root : MethodName := ⟨RX4, "root", "(I)D"⟩
abbrev cX4_rows : ByteArray := prog_1_method_28_code
def yX4_rows : MethodName := ⟨RX4, "rows", "()I"⟩
abbrev cX4_changes : ByteArray := prog_1_method_31_code
def yX4_changes : MethodName := ⟨RX4, "changes", "(II)I"⟩
abbrev cX4_surplus : ByteArray := prog_1_method_32_code
def yX4_surplus : MethodName := ⟨RX4, "surplus", "(II)I"⟩
abbrev cX4_writeTurns : ByteArray := prog_1_method_34_code
def yX4_writeTurns : MethodName := ⟨RX4, "writeTurns", "()I"⟩
abbrev cX4_output : ByteArray := prog_1_method_35_code
def yX4_output : MethodName := ⟨RX4, "output", "(I)I"⟩
abbrev cX4_isPlayer : ByteArray := prog_1_method_39_code
def yX4_isPlayer : MethodName := ⟨RX4, "isPlayer", "(I)Z"⟩
abbrev cX4_isPlace : ByteArray := prog_1_method_40_code
def yX4_isPlace : MethodName := ⟨RX4, "isPlace", "(I)Z"⟩
abbrev cX4_isInterval : ByteArray := prog_1_method_41_code
def yX4_isInterval : MethodName := ⟨RX4, "isInterval", "(II)Z"⟩
abbrev cX4_isLayable : ByteArray := prog_1_method_42_code
def yX4_isLayable : MethodName := ⟨RX4, "isLayable", "(I)Z"⟩
abbrev cX4_buildRows : ByteArray := prog_1_method_43_code
def yX4_buildRows : MethodName := ⟨RX4, "buildRows", "([I)V"⟩
abbrev cX4_makeClaim : ByteArray := prog_1_method_44_code
def yX4_makeClaim : MethodName := ⟨RX4, "makeClaim", "(IIIII)I"⟩
abbrev cX4_layTerm : ByteArray := prog_1_method_45_code
def yX4_layTerm : MethodName := ⟨RX4, "layTerm", "(II)I"⟩
abbrev cX4_passTurn : ByteArray := prog_1_method_46_code
def yX4_passTurn : MethodName := ⟨RX4, "passTurn", "()I"⟩
abbrev cX4_settle : ByteArray := prog_1_method_47_code
def yX4_settle : MethodName := ⟨RX4, "settle", "(I)I"⟩
abbrev cX4_leadBehind : ByteArray := prog_1_method_48_code
def yX4_leadBehind : MethodName := ⟨RX4, "leadBehind", "(II)I"⟩
abbrev cX4_shiftTo : ByteArray := prog_1_method_49_code
def yX4_shiftTo : MethodName := ⟨RX4, "shiftTo", "(I)V"⟩
abbrev cX4_derivativeChanges : ByteArray := prog_1_method_50_code
def yX4_derivativeChanges : MethodName := ⟨RX4, "derivativeChanges", "(I)I"⟩
def RX5 : String := "RootDuelLaw$Claim"
def TX5 : u_T := fun k => match k with
  | 0 => ("RootDuelLaw$Claim", "a", "I", true)
  | 1 => ("RootDuelLaw$Claim", "b", "I", true)
  | 2 => ("RootDuelLaw$Claim", "roots", "I", true)
  | 3 => ("RootDuelLaw$Claim", "least", "Z", true)
  | _ => ("RootDuelLaw$Claim", "stake", "I", true)
def tyX5 : Nat → FieldType := fun k => match k with
  | 0 => .int
  | 1 => .int
  | 2 => .int
  | 3 => .boolean
  | _ => .int
abbrev wsX50 : List Cond := u_ws RX5 TX5 5
theorem nmX5 : ∀ a, a < 5 → ∀ b, b < 5 → a ≠ b → (TX5 a).2.1 ≠ (TX5 b).2.1 := by decide +kernel
theorem tyX5_ok : ∀ k, k < 5 → parseFieldDescriptor (TX5 k).2.2.1 = some (tyX5 k) := by decide +kernel
abbrev cX5_init : ByteArray := prog_7_method_1_code
def yX5_init : MethodName := ⟨RX5, "<init>", "(IIIZI)V"⟩
def RX6 : String := "RootDuelLaw$Contest"
def TX6 : u_T := fun k => match k with
  | 0 => ("RootDuelLaw$Contest", "co", "[I", true)
  | 1 => ("RootDuelLaw$Contest", "latest", "[I", true)
  | 2 => ("RootDuelLaw$Contest", "claims", "Ljava/util/ArrayList;", true)
  | 3 => ("RootDuelLaw$Contest", "bar", "I", true)
  | 4 => ("RootDuelLaw$Contest", "turns", "I", true)
  | 5 => ("RootDuelLaw$Contest", "reach", "I", true)
  | 6 => ("RootDuelLaw$Contest", "goal", "I", true)
  | 7 => ("RootDuelLaw$Contest", "bonus", "I", true)
  | 8 => ("RootDuelLaw$Contest", "purse", "I", true)
  | 9 => ("RootDuelLaw$Contest", "turn", "I", false)
  | 10 => ("RootDuelLaw$Contest", "hasPassed", "Z", false)
  | 11 => ("RootDuelLaw$Contest", "hasClaimed", "Z", false)
  | 12 => ("RootDuelLaw$Contest", "isOver", "Z", false)
  | _ => ("RootDuelLaw$Contest", "bonusTo", "I", false)
def tyX6 : Nat → FieldType := fun k => match k with
  | 0 => .array .int
  | 1 => .array .int
  | 2 => .object "java/util/ArrayList"
  | 3 => .int
  | 4 => .int
  | 5 => .int
  | 6 => .int
  | 7 => .int
  | 8 => .int
  | 9 => .int
  | 10 => .boolean
  | 11 => .boolean
  | 12 => .boolean
  | _ => .int
abbrev wsX60 : List Cond := u_ws RX6 TX6 14
theorem nmX6 : ∀ a, a < 14 → ∀ b, b < 14 → a ≠ b → (TX6 a).2.1 ≠ (TX6 b).2.1 := by decide +kernel
theorem tyX6_ok : ∀ k, k < 14 → parseFieldDescriptor (TX6 k).2.2.1 = some (tyX6 k) := by decide +kernel
abbrev cX6_init : ByteArray := prog_8_method_1_code
def yX6_init : MethodName := ⟨RX6, "<init>", "([I)V"⟩
abbrev cX6_whose : ByteArray := prog_8_method_2_code
def yX6_whose : MethodName := ⟨RX6, "whose", "()I"⟩
abbrev cX6_isBarred : ByteArray := prog_8_method_3_code
def yX6_isBarred : MethodName := ⟨RX6, "isBarred", "(I)Z"⟩
abbrev cX6_isZero : ByteArray := prog_8_method_4_code
def yX6_isZero : MethodName := ⟨RX6, "isZero", "(I)Z"⟩
abbrev cX6_whyLay : ByteArray := prog_8_method_5_code
def yX6_whyLay : MethodName := ⟨RX6, "whyLay", "(II)I"⟩
abbrev cX6_whyClaim : ByteArray := prog_8_method_6_code
def yX6_whyClaim : MethodName := ⟨RX6, "whyClaim", "(LRootDuelLaw$Claim;)I"⟩
abbrev cX6_ends : ByteArray := prog_8_method_7_code
def yX6_ends : MethodName := ⟨RX6, "ends", "(Z)V"⟩
abbrev cX6_value : ByteArray := prog_8_method_8_code
def yX6_value : MethodName := ⟨RX6, "value", "(I)J"⟩
abbrev cX6_score : ByteArray := prog_8_method_9_code
def yX6_score : MethodName := ⟨RX6, "score", "(LRootDuel;I)I"⟩
def RX7 : String := "RootDuelLaw$Told"
def TX7 : u_T := fun k => match k with
  | 0 => ("RootDuelLaw$Told", "s", "[I", true)
  | _ => ("RootDuelLaw$Told", "at", "I", false)
def tyX7 : Nat → FieldType := fun k => match k with
  | 0 => .array .int
  | _ => .int
abbrev wsX70 : List Cond := u_ws RX7 TX7 2
theorem nmX7 : ∀ a, a < 2 → ∀ b, b < 2 → a ≠ b → (TX7 a).2.1 ≠ (TX7 b).2.1 := by decide +kernel
theorem tyX7_ok : ∀ k, k < 2 → parseFieldDescriptor (TX7 k).2.2.1 = some (tyX7 k) := by decide +kernel
abbrev cX7_init : ByteArray := prog_9_method_1_code
def yX7_init : MethodName := ⟨RX7, "<init>", "([I)V"⟩
abbrev cX7_next : ByteArray := prog_9_method_2_code
def yX7_next : MethodName := ⟨RX7, "next", "(I)I"⟩
def RX8 : String := "RootDuelModel"
def TX8 : u_T := fun k => match k with
  | _ => ("", "", "", false)
def tyX8 : Nat → FieldType := fun k => match k with
  | _ => .int
abbrev wsX80 : List Cond := u_ws RX8 TX8 0
theorem nmX8 : ∀ a, a < 0 → ∀ b, b < 0 → a ≠ b → (TX8 a).2.1 ≠ (TX8 b).2.1 := by decide +kernel
theorem tyX8_ok : ∀ k, k < 0 → parseFieldDescriptor (TX8 k).2.2.1 = some (tyX8 k) := by decide +kernel
def RJx145de : String := "java/io/Serializable"
def TJx145de : u_T := fun k => match k with
  | _ => ("", "", "", false)
def tyJx145de : Nat → FieldType := fun k => match k with
  | _ => .int
abbrev wsJx145de0 : List Cond := u_ws RJx145de TJx145de 0
theorem nmJx145de : ∀ a, a < 0 → ∀ b, b < 0 → a ≠ b → (TJx145de a).2.1 ≠ (TJx145de b).2.1 := by decide +kernel
theorem tyJx145de_ok : ∀ k, k < 0 → parseFieldDescriptor (TJx145de k).2.2.1 = some (tyJx145de k) := by decide +kernel
def RJ5 : String := "java/lang/AbstractStringBuilder"
def TJ5 : u_T := fun k => match k with
  | _ => ("", "", "", false)
def tyJ5 : Nat → FieldType := fun k => match k with
  | _ => .int
abbrev wsJ50 : List Cond := u_ws RJ5 TJ5 0
theorem nmJ5 : ∀ a, a < 0 → ∀ b, b < 0 → a ≠ b → (TJ5 a).2.1 ≠ (TJ5 b).2.1 := by decide +kernel
theorem tyJ5_ok : ∀ k, k < 0 → parseFieldDescriptor (TJ5 k).2.2.1 = some (tyJ5 k) := by decide +kernel
abbrev cJ5_init_d00df : ByteArray := prog_12_method_2_code
def yJ5_init_d00df : MethodName := ⟨RJ5, "<init>", "(I)V"⟩
abbrev cJ5_init_a7421 : ByteArray := prog_12_method_3_code
def yJ5_init_a7421 : MethodName := ⟨RJ5, "<init>", "(Ljava/lang/String;)V"⟩
abbrev cJ5_length_8abf5 : ByteArray := prog_12_method_6_code
def yJ5_length_8abf5 : MethodName := ⟨RJ5, "length", "()I"⟩
abbrev cJ5_ensureCapacityInternal_d00df : ByteArray := prog_12_method_9_code
def yJ5_ensureCapacityInternal_d00df : MethodName := ⟨RJ5, "ensureCapacityInternal", "(I)V"⟩
abbrev cJ5_newCapacity_0f7a4 : ByteArray := prog_12_method_10_code
def yJ5_newCapacity_0f7a4 : MethodName := ⟨RJ5, "newCapacity", "(I)I"⟩
abbrev cJ5_inflate_da8c8 : ByteArray := prog_12_method_11_code
def yJ5_inflate_da8c8 : MethodName := ⟨RJ5, "inflate", "()V"⟩
abbrev cJ5_append_cf1ce : ByteArray := prog_12_method_22_code
def yJ5_append_cf1ce : MethodName := ⟨RJ5, "append", "(Ljava/lang/String;)Ljava/lang/AbstractStringBuilder;"⟩
abbrev cJ5_appendNull_278bc : ByteArray := prog_12_method_26_code
def yJ5_appendNull_278bc : MethodName := ⟨RJ5, "appendNull", "()Ljava/lang/AbstractStringBuilder;"⟩
abbrev cJ5_append_3fe6f : ByteArray := prog_12_method_31_code
def yJ5_append_3fe6f : MethodName := ⟨RJ5, "append", "(C)Ljava/lang/AbstractStringBuilder;"⟩
abbrev cJ5_append_c97b9 : ByteArray := prog_12_method_32_code
def yJ5_append_c97b9 : MethodName := ⟨RJ5, "append", "(I)Ljava/lang/AbstractStringBuilder;"⟩
abbrev cJ5_getValue_6d5f1 : ByteArray := prog_12_method_64_code
def yJ5_getValue_6d5f1 : MethodName := ⟨RJ5, "getValue", "()[B"⟩
abbrev cJ5_isLatin1_aae02 : ByteArray := prog_12_method_68_code
def yJ5_isLatin1_aae02 : MethodName := ⟨RJ5, "isLatin1", "()Z"⟩
abbrev cJ5_inflateIfNeededFor_a7421 : ByteArray := prog_12_method_71_code
def yJ5_inflateIfNeededFor_a7421 : MethodName := ⟨RJ5, "inflateIfNeededFor", "(Ljava/lang/String;)V"⟩
abbrev cJ5_putStringAt_47b60 : ByteArray := prog_12_method_73_code
def yJ5_putStringAt_47b60 : MethodName := ⟨RJ5, "putStringAt", "(ILjava/lang/String;)V"⟩
def RJx2cfe8 : String := "java/lang/Appendable"
def TJx2cfe8 : u_T := fun k => match k with
  | _ => ("", "", "", false)
def tyJx2cfe8 : Nat → FieldType := fun k => match k with
  | _ => .int
abbrev wsJx2cfe80 : List Cond := u_ws RJx2cfe8 TJx2cfe8 0
theorem nmJx2cfe8 : ∀ a, a < 0 → ∀ b, b < 0 → a ≠ b → (TJx2cfe8 a).2.1 ≠ (TJx2cfe8 b).2.1 := by decide +kernel
theorem tyJx2cfe8_ok : ∀ k, k < 0 → parseFieldDescriptor (TJx2cfe8 k).2.2.1 = some (tyJx2cfe8 k) := by decide +kernel
def RJx9f9b0 : String := "java/lang/CharSequence"
def TJx9f9b0 : u_T := fun k => match k with
  | _ => ("", "", "", false)
def tyJx9f9b0 : Nat → FieldType := fun k => match k with
  | _ => .int
abbrev wsJx9f9b00 : List Cond := u_ws RJx9f9b0 TJx9f9b0 0
theorem nmJx9f9b0 : ∀ a, a < 0 → ∀ b, b < 0 → a ≠ b → (TJx9f9b0 a).2.1 ≠ (TJx9f9b0 b).2.1 := by decide +kernel
theorem tyJx9f9b0_ok : ∀ k, k < 0 → parseFieldDescriptor (TJx9f9b0 k).2.2.1 = some (tyJx9f9b0 k) := by decide +kernel
def RJx8e188 : String := "java/lang/Cloneable"
def TJx8e188 : u_T := fun k => match k with
  | _ => ("", "", "", false)
def tyJx8e188 : Nat → FieldType := fun k => match k with
  | _ => .int
abbrev wsJx8e1880 : List Cond := u_ws RJx8e188 TJx8e188 0
theorem nmJx8e188 : ∀ a, a < 0 → ∀ b, b < 0 → a ≠ b → (TJx8e188 a).2.1 ≠ (TJx8e188 b).2.1 := by decide +kernel
theorem tyJx8e188_ok : ∀ k, k < 0 → parseFieldDescriptor (TJx8e188 k).2.2.1 = some (tyJx8e188 k) := by decide +kernel
def RJxb160c : String := "java/lang/Comparable"
def TJxb160c : u_T := fun k => match k with
  | _ => ("", "", "", false)
def tyJxb160c : Nat → FieldType := fun k => match k with
  | _ => .int
abbrev wsJxb160c0 : List Cond := u_ws RJxb160c TJxb160c 0
theorem nmJxb160c : ∀ a, a < 0 → ∀ b, b < 0 → a ≠ b → (TJxb160c a).2.1 ≠ (TJxb160c b).2.1 := by decide +kernel
theorem tyJxb160c_ok : ∀ k, k < 0 → parseFieldDescriptor (TJxb160c k).2.2.1 = some (tyJxb160c k) := by decide +kernel
def RJ6 : String := "java/lang/Integer"
def TJ6 : u_T := fun k => match k with
  | _ => ("", "", "", false)
def tyJ6 : Nat → FieldType := fun k => match k with
  | _ => .int
abbrev wsJ60 : List Cond := u_ws RJ6 TJ6 0
theorem nmJ6 : ∀ a, a < 0 → ∀ b, b < 0 → a ≠ b → (TJ6 a).2.1 ≠ (TJ6 b).2.1 := by decide +kernel
theorem tyJ6_ok : ∀ k, k < 0 → parseFieldDescriptor (TJ6 k).2.2.1 = some (tyJ6 k) := by decide +kernel
abbrev cJ6_getChars_ba4f3 : ByteArray := prog_21_method_12_code
def yJ6_getChars_ba4f3 : MethodName := ⟨RJ6, "getChars", "(II[B)I"⟩
abbrev cJ6_stringSize_0f7a4 : ByteArray := prog_21_method_13_code
def yJ6_stringSize_0f7a4 : MethodName := ⟨RJ6, "stringSize", "(I)I"⟩
def RJxab1ab : String := "java/lang/Iterable"
def TJxab1ab : u_T := fun k => match k with
  | _ => ("", "", "", false)
def tyJxab1ab : Nat → FieldType := fun k => match k with
  | _ => .int
abbrev wsJxab1ab0 : List Cond := u_ws RJxab1ab TJxab1ab 0
theorem nmJxab1ab : ∀ a, a < 0 → ∀ b, b < 0 → a ≠ b → (TJxab1ab a).2.1 ≠ (TJxab1ab b).2.1 := by decide +kernel
theorem tyJxab1ab_ok : ∀ k, k < 0 → parseFieldDescriptor (TJxab1ab k).2.2.1 = some (tyJxab1ab k) := by decide +kernel
def RJ13 : String := "java/lang/Long"
def TJ13 : u_T := fun k => match k with
  | _ => ("", "", "", false)
def tyJ13 : Nat → FieldType := fun k => match k with
  | _ => .int
abbrev wsJ130 : List Cond := u_ws RJ13 TJ13 0
theorem nmJ13 : ∀ a, a < 0 → ∀ b, b < 0 → a ≠ b → (TJ13 a).2.1 ≠ (TJ13 b).2.1 := by decide +kernel
theorem tyJ13_ok : ∀ k, k < 0 → parseFieldDescriptor (TJ13 k).2.2.1 = some (tyJ13 k) := by decide +kernel
abbrev cJ13_compare_74951 : ByteArray := prog_23_method_42_code
def yJ13_compare_74951 : MethodName := ⟨RJ13, "compare", "(JJ)I"⟩
def RJ9 : String := "java/lang/Math"
def TJ9 : u_T := fun k => match k with
  | _ => ("", "", "", false)
def tyJ9 : Nat → FieldType := fun k => match k with
  | _ => .int
abbrev wsJ90 : List Cond := u_ws RJ9 TJ9 0
theorem nmJ9 : ∀ a, a < 0 → ∀ b, b < 0 → a ≠ b → (TJ9 a).2.1 ≠ (TJ9 b).2.1 := by decide +kernel
theorem tyJ9_ok : ∀ k, k < 0 → parseFieldDescriptor (TJ9 k).2.2.1 = some (tyJ9 k) := by decide +kernel
abbrev cJ9_abs_0f7a4 : ByteArray := prog_24_method_59_code
def yJ9_abs_0f7a4 : MethodName := ⟨RJ9, "abs", "(I)I"⟩
abbrev cJ9_abs_067f4 : ByteArray := prog_24_method_61_code
def yJ9_abs_067f4 : MethodName := ⟨RJ9, "abs", "(J)J"⟩
abbrev cJ9_max_7cf53 : ByteArray := prog_24_method_65_code
def yJ9_max_7cf53 : MethodName := ⟨RJ9, "max", "(II)I"⟩
abbrev cJ9_min_7cf53 : ByteArray := prog_24_method_69_code
def yJ9_min_7cf53 : MethodName := ⟨RJ9, "min", "(II)I"⟩
def RJxd2413 : String := "java/lang/Number"
def TJxd2413 : u_T := fun k => match k with
  | _ => ("", "", "", false)
def tyJxd2413 : Nat → FieldType := fun k => match k with
  | _ => .int
abbrev wsJxd24130 : List Cond := u_ws RJxd2413 TJxd2413 0
theorem nmJxd2413 : ∀ a, a < 0 → ∀ b, b < 0 → a ≠ b → (TJxd2413 a).2.1 ≠ (TJxd2413 b).2.1 := by decide +kernel
theorem tyJxd2413_ok : ∀ k, k < 0 → parseFieldDescriptor (TJxd2413 k).2.2.1 = some (tyJxd2413 k) := by decide +kernel
def RJ0 : String := "java/lang/String"
def TJ0 : u_T := fun k => match k with
  | 0 => ("java/lang/String", "value", "[B", true)
  | 1 => ("java/lang/String", "coder", "B", true)
  | 2 => ("java/lang/String", "hash", "I", false)
  | _ => ("java/lang/String", "hashIsZero", "Z", false)
def tyJ0 : Nat → FieldType := fun k => match k with
  | 0 => .array .byte
  | 1 => .byte
  | 2 => .int
  | _ => .boolean
abbrev wsJ00 : List Cond := u_ws RJ0 TJ0 4
theorem nmJ0 : ∀ a, a < 4 → ∀ b, b < 4 → a ≠ b → (TJ0 a).2.1 ≠ (TJ0 b).2.1 := by decide +kernel
theorem tyJ0_ok : ∀ k, k < 4 → parseFieldDescriptor (TJ0 k).2.2.1 = some (tyJ0 k) := by decide +kernel
abbrev cJ0_init_81219 : ByteArray := prog_27_method_53_code
def yJ0_init_81219 : MethodName := ⟨RJ0, "<init>", "(Ljava/lang/StringBuilder;)V"⟩
abbrev cJ0_length_8abf5 : ByteArray := prog_27_method_54_code
def yJ0_length_8abf5 : MethodName := ⟨RJ0, "length", "()I"⟩
abbrev cJ0_charAt_5068e : ByteArray := prog_27_method_56_code
def yJ0_charAt_5068e : MethodName := ⟨RJ0, "charAt", "(I)C"⟩
abbrev cJ0_getBytes_840e7 : ByteArray := prog_27_method_147_code
def yJ0_getBytes_840e7 : MethodName := ⟨RJ0, "getBytes", "([BIB)V"⟩
abbrev cJ0_init_db425 : ByteArray := prog_27_method_150_code
def yJ0_init_db425 : MethodName := ⟨RJ0, "<init>", "(Ljava/lang/AbstractStringBuilder;Ljava/lang/Void;)V"⟩
abbrev cJ0_coder_7d493 : ByteArray := prog_27_method_152_code
def yJ0_coder_7d493 : MethodName := ⟨RJ0, "coder", "()B"⟩
abbrev cJ0_isLatin1_aae02 : ByteArray := prog_27_method_154_code
def yJ0_isLatin1_aae02 : MethodName := ⟨RJ0, "isLatin1", "()Z"⟩
abbrev cJ0_checkIndex_df160 : ByteArray := prog_27_method_155_code
def yJ0_checkIndex_df160 : MethodName := ⟨RJ0, "checkIndex", "(II)V"⟩
abbrev cJ0_checkBoundsOffCount_cabcc : ByteArray := prog_27_method_157_code
def yJ0_checkBoundsOffCount_cabcc : MethodName := ⟨RJ0, "checkBoundsOffCount", "(III)I"⟩
abbrev cJ0_checkBoundsBeginEnd_23922 : ByteArray := prog_27_method_158_code
def yJ0_checkBoundsBeginEnd_23922 : MethodName := ⟨RJ0, "checkBoundsBeginEnd", "(III)V"⟩
def RJ4 : String := "java/lang/StringBuilder"
def TJ4 : u_T := fun k => match k with
  | 0 => ("java/lang/AbstractStringBuilder", "value", "[B", false)
  | 1 => ("java/lang/AbstractStringBuilder", "coder", "B", false)
  | 2 => ("java/lang/AbstractStringBuilder", "maybeLatin1", "Z", false)
  | _ => ("java/lang/AbstractStringBuilder", "count", "I", false)
def tyJ4 : Nat → FieldType := fun k => match k with
  | 0 => .array .byte
  | 1 => .byte
  | 2 => .boolean
  | _ => .int
abbrev wsJ40 : List Cond := u_ws RJ4 TJ4 4
theorem nmJ4 : ∀ a, a < 4 → ∀ b, b < 4 → a ≠ b → (TJ4 a).2.1 ≠ (TJ4 b).2.1 := by decide +kernel
theorem tyJ4_ok : ∀ k, k < 4 → parseFieldDescriptor (TJ4 k).2.2.1 = some (tyJ4 k) := by decide +kernel
abbrev cJ4_init_da8c8 : ByteArray := prog_28_method_1_code
def yJ4_init_da8c8 : MethodName := ⟨RJ4, "<init>", "()V"⟩
abbrev cJ4_init_a7421 : ByteArray := prog_28_method_3_code
def yJ4_init_a7421 : MethodName := ⟨RJ4, "<init>", "(Ljava/lang/String;)V"⟩
abbrev cJ4_append_15ec4 : ByteArray := prog_28_method_7_code
def yJ4_append_15ec4 : MethodName := ⟨RJ4, "append", "(Ljava/lang/String;)Ljava/lang/StringBuilder;"⟩
abbrev cJ4_append_cf468 : ByteArray := prog_28_method_14_code
def yJ4_append_cf468 : MethodName := ⟨RJ4, "append", "(C)Ljava/lang/StringBuilder;"⟩
abbrev cJ4_append_bf812 : ByteArray := prog_28_method_15_code
def yJ4_append_bf812 : MethodName := ⟨RJ4, "append", "(I)Ljava/lang/StringBuilder;"⟩
abbrev cJ4_toString_0e30d : ByteArray := prog_28_method_42_code
def yJ4_toString_0e30d : MethodName := ⟨RJ4, "toString", "()Ljava/lang/String;"⟩
abbrev cJ4_append_cf1ce : ByteArray := prog_28_method_80_code
def yJ4_append_cf1ce : MethodName := ⟨RJ4, "append", "(Ljava/lang/String;)Ljava/lang/AbstractStringBuilder;"⟩
abbrev cJ4_length_8abf5 : ByteArray := prog_28_method_93_code
def yJ4_length_8abf5 : MethodName := ⟨RJ4, "length", "()I"⟩
def RJ1 : String := "java/lang/StringLatin1"
def TJ1 : u_T := fun k => match k with
  | _ => ("", "", "", false)
def tyJ1 : Nat → FieldType := fun k => match k with
  | _ => .int
abbrev wsJ10 : List Cond := u_ws RJ1 TJ1 0
theorem nmJ1 : ∀ a, a < 0 → ∀ b, b < 0 → a ≠ b → (TJ1 a).2.1 ≠ (TJ1 b).2.1 := by decide +kernel
theorem tyJ1_ok : ∀ k, k < 0 → parseFieldDescriptor (TJ1 k).2.2.1 = some (tyJ1 k) := by decide +kernel
abbrev cJ1_charAt_3b067 : ByteArray := prog_29_method_2_code
def yJ1_charAt_3b067 : MethodName := ⟨RJ1, "charAt", "([BI)C"⟩
abbrev cJ1_canEncode_fc78d : ByteArray := prog_29_method_3_code
def yJ1_canEncode_fc78d : MethodName := ⟨RJ1, "canEncode", "(C)Z"⟩
abbrev cJ1_inflate_0e8fd : ByteArray := prog_29_method_50_code
def yJ1_inflate_0e8fd : MethodName := ⟨RJ1, "inflate", "([BI[BII)V"⟩
def RJ2 : String := "java/lang/StringUTF16"
def TJ2 : u_T := fun k => match k with
  | _ => ("", "", "", false)
def tyJ2 : Nat → FieldType := fun k => match k with
  | _ => .int
abbrev wsJ20 : List Cond := u_ws RJ2 TJ2 0
theorem nmJ2 : ∀ a, a < 0 → ∀ b, b < 0 → a ≠ b → (TJ2 a).2.1 ≠ (TJ2 b).2.1 := by decide +kernel
theorem tyJ2_ok : ∀ k, k < 0 → parseFieldDescriptor (TJ2 k).2.2.1 = some (tyJ2 k) := by decide +kernel
abbrev cJ2_newBytesFor_77867 : ByteArray := prog_30_method_2_code
def yJ2_newBytesFor_77867 : MethodName := ⟨RJ2, "newBytesFor", "(I)[B"⟩
abbrev cJ2_newBytesLength_0f7a4 : ByteArray := prog_30_method_3_code
def yJ2_newBytesLength_0f7a4 : MethodName := ⟨RJ2, "newBytesLength", "(I)I"⟩
abbrev cJ2_putChar_b72d1 : ByteArray := prog_30_method_4_code
def yJ2_putChar_b72d1 : MethodName := ⟨RJ2, "putChar", "([BII)V"⟩
abbrev cJ2_getChar_3b067 : ByteArray := prog_30_method_5_code
def yJ2_getChar_3b067 : MethodName := ⟨RJ2, "getChar", "([BI)C"⟩
abbrev cJ2_length_9d52b : ByteArray := prog_30_method_6_code
def yJ2_length_9d52b : MethodName := ⟨RJ2, "length", "([B)I"⟩
abbrev cJ2_coderFromArrayLen_85cad : ByteArray := prog_30_method_15_code
def yJ2_coderFromArrayLen_85cad : MethodName := ⟨RJ2, "coderFromArrayLen", "([BI)B"⟩
abbrev cJ2_compress_39247 : ByteArray := prog_30_method_17_code
def yJ2_compress_39247 : MethodName := ⟨RJ2, "compress", "([BII)[B"⟩
abbrev cJ2_compress_5af95 : ByteArray := prog_30_method_22_code
def yJ2_compress_5af95 : MethodName := ⟨RJ2, "compress", "([BI[BII)I"⟩
abbrev cJ2_putCharSB_b72d1 : ByteArray := prog_30_method_71_code
def yJ2_putCharSB_b72d1 : MethodName := ⟨RJ2, "putCharSB", "([BII)V"⟩
abbrev cJ2_getChars_46870 : ByteArray := prog_30_method_77_code
def yJ2_getChars_46870 : MethodName := ⟨RJ2, "getChars", "(III[B)I"⟩
abbrev cJ2_putCharsAt_cd4e5 : ByteArray := prog_30_method_81_code
def yJ2_putCharsAt_cd4e5 : MethodName := ⟨RJ2, "putCharsAt", "([BICCCC)I"⟩
abbrev cJ2_charAt_3b067 : ByteArray := prog_30_method_83_code
def yJ2_charAt_3b067 : MethodName := ⟨RJ2, "charAt", "([BI)C"⟩
abbrev cJ2_inflate_0e8fd : ByteArray := prog_30_method_86_code
def yJ2_inflate_0e8fd : MethodName := ⟨RJ2, "inflate", "([BI[BII)V"⟩
abbrev cJ2_getChars_ba4f3 : ByteArray := prog_30_method_89_code
def yJ2_getChars_ba4f3 : MethodName := ⟨RJ2, "getChars", "(II[B)I"⟩
abbrev cJ2_checkIndex_2214a : ByteArray := prog_30_method_91_code
def yJ2_checkIndex_2214a : MethodName := ⟨RJ2, "checkIndex", "(I[B)V"⟩
abbrev cJ2_checkBoundsBeginEnd_d044e : ByteArray := prog_30_method_93_code
def yJ2_checkBoundsBeginEnd_d044e : MethodName := ⟨RJ2, "checkBoundsBeginEnd", "(II[B)V"⟩
abbrev cJ2_checkBoundsOffCount_d044e : ByteArray := prog_30_method_94_code
def yJ2_checkBoundsOffCount_d044e : MethodName := ⟨RJ2, "checkBoundsOffCount", "(II[B)V"⟩
def RJ10 : String := "java/lang/System"
def TJ10 : u_T := fun k => match k with
  | _ => ("", "", "", false)
def tyJ10 : Nat → FieldType := fun k => match k with
  | _ => .int
abbrev wsJ100 : List Cond := u_ws RJ10 TJ10 0
theorem nmJ10 : ∀ a, a < 0 → ∀ b, b < 0 → a ≠ b → (TJ10 a).2.1 ≠ (TJ10 b).2.1 := by decide +kernel
theorem tyJ10_ok : ∀ k, k < 0 → parseFieldDescriptor (TJ10 k).2.2.1 = some (tyJ10 k) := by decide +kernel
def RJxfd54e : String := "java/lang/constant/Constable"
def TJxfd54e : u_T := fun k => match k with
  | _ => ("", "", "", false)
def tyJxfd54e : Nat → FieldType := fun k => match k with
  | _ => .int
abbrev wsJxfd54e0 : List Cond := u_ws RJxfd54e TJxfd54e 0
theorem nmJxfd54e : ∀ a, a < 0 → ∀ b, b < 0 → a ≠ b → (TJxfd54e a).2.1 ≠ (TJxfd54e b).2.1 := by decide +kernel
theorem tyJxfd54e_ok : ∀ k, k < 0 → parseFieldDescriptor (TJxfd54e k).2.2.1 = some (tyJxfd54e k) := by decide +kernel
def RJx3cf43 : String := "java/lang/constant/ConstantDesc"
def TJx3cf43 : u_T := fun k => match k with
  | _ => ("", "", "", false)
def tyJx3cf43 : Nat → FieldType := fun k => match k with
  | _ => .int
abbrev wsJx3cf430 : List Cond := u_ws RJx3cf43 TJx3cf43 0
theorem nmJx3cf43 : ∀ a, a < 0 → ∀ b, b < 0 → a ≠ b → (TJx3cf43 a).2.1 ≠ (TJx3cf43 b).2.1 := by decide +kernel
theorem tyJx3cf43_ok : ∀ k, k < 0 → parseFieldDescriptor (TJx3cf43 k).2.2.1 = some (tyJx3cf43 k) := by decide +kernel
def RJxa1e45 : String := "java/util/AbstractCollection"
def TJxa1e45 : u_T := fun k => match k with
  | _ => ("", "", "", false)
def tyJxa1e45 : Nat → FieldType := fun k => match k with
  | _ => .int
abbrev wsJxa1e450 : List Cond := u_ws RJxa1e45 TJxa1e45 0
theorem nmJxa1e45 : ∀ a, a < 0 → ∀ b, b < 0 → a ≠ b → (TJxa1e45 a).2.1 ≠ (TJxa1e45 b).2.1 := by decide +kernel
theorem tyJxa1e45_ok : ∀ k, k < 0 → parseFieldDescriptor (TJxa1e45 k).2.2.1 = some (tyJxa1e45 k) := by decide +kernel
abbrev cJxa1e45_init_da8c8 : ByteArray := prog_35_method_1_code
def yJxa1e45_init_da8c8 : MethodName := ⟨RJxa1e45, "<init>", "()V"⟩
def RJxc12de : String := "java/util/AbstractList"
def TJxc12de : u_T := fun k => match k with
  | _ => ("", "", "", false)
def tyJxc12de : Nat → FieldType := fun k => match k with
  | _ => .int
abbrev wsJxc12de0 : List Cond := u_ws RJxc12de TJxc12de 0
theorem nmJxc12de : ∀ a, a < 0 → ∀ b, b < 0 → a ≠ b → (TJxc12de a).2.1 ≠ (TJxc12de b).2.1 := by decide +kernel
theorem tyJxc12de_ok : ∀ k, k < 0 → parseFieldDescriptor (TJxc12de k).2.2.1 = some (tyJxc12de k) := by decide +kernel
abbrev cJxc12de_init_da8c8 : ByteArray := prog_36_method_1_code
def yJxc12de_init_da8c8 : MethodName := ⟨RJxc12de, "<init>", "()V"⟩
def RJx35411 : String := "java/util/ArrayList$Itr"
def TJx35411 : u_T := fun k => match k with
  | 0 => ("java/util/ArrayList$Itr", "cursor", "I", false)
  | 1 => ("java/util/ArrayList$Itr", "lastRet", "I", false)
  | 2 => ("java/util/ArrayList$Itr", "expectedModCount", "I", false)
  | _ => ("java/util/ArrayList$Itr", "this$0", "Ljava/util/ArrayList;", true)
def tyJx35411 : Nat → FieldType := fun k => match k with
  | 0 => .int
  | 1 => .int
  | 2 => .int
  | _ => .object "java/util/ArrayList"
abbrev wsJx354110 : List Cond := u_ws RJx35411 TJx35411 4
theorem nmJx35411 : ∀ a, a < 4 → ∀ b, b < 4 → a ≠ b → (TJx35411 a).2.1 ≠ (TJx35411 b).2.1 := by decide +kernel
theorem tyJx35411_ok : ∀ k, k < 4 → parseFieldDescriptor (TJx35411 k).2.2.1 = some (tyJx35411 k) := by decide +kernel
abbrev cJx35411_init_45d68 : ByteArray := prog_38_method_1_code
def yJx35411_init_45d68 : MethodName := ⟨RJx35411, "<init>", "(Ljava/util/ArrayList;)V"⟩
abbrev cJx35411_hasNext_aae02 : ByteArray := prog_38_method_2_code
def yJx35411_hasNext_aae02 : MethodName := ⟨RJx35411, "hasNext", "()Z"⟩
abbrev cJx35411_next_0502b : ByteArray := prog_38_method_3_code
def yJx35411_next_0502b : MethodName := ⟨RJx35411, "next", "()Ljava/lang/Object;"⟩
abbrev cJx35411_checkForComodification_da8c8 : ByteArray := prog_38_method_6_code
def yJx35411_checkForComodification_da8c8 : MethodName := ⟨RJx35411, "checkForComodification", "()V"⟩
def RJx4a65c : String := "java/util/ArrayList"
def TJx4a65c : u_T := fun k => match k with
  | 0 => ("java/util/AbstractList", "modCount", "I", false)
  | 1 => ("java/util/ArrayList", "elementData", "[Ljava/lang/Object;", false)
  | _ => ("java/util/ArrayList", "size", "I", false)
def tyJx4a65c : Nat → FieldType := fun k => match k with
  | 0 => .int
  | 1 => .array (.object "java/lang/Object")
  | _ => .int
abbrev wsJx4a65c0 : List Cond := u_ws RJx4a65c TJx4a65c 3
theorem nmJx4a65c : ∀ a, a < 3 → ∀ b, b < 3 → a ≠ b → (TJx4a65c a).2.1 ≠ (TJx4a65c b).2.1 := by decide +kernel
theorem tyJx4a65c_ok : ∀ k, k < 3 → parseFieldDescriptor (TJx4a65c k).2.2.1 = some (tyJx4a65c k) := by decide +kernel
abbrev cJx4a65c_init_da8c8 : ByteArray := prog_37_method_2_code
def yJx4a65c_init_da8c8 : MethodName := ⟨RJx4a65c, "<init>", "()V"⟩
abbrev cJx4a65c_grow_92f84 : ByteArray := prog_37_method_6_code
def yJx4a65c_grow_92f84 : MethodName := ⟨RJx4a65c, "grow", "(I)[Ljava/lang/Object;"⟩
abbrev cJx4a65c_grow_d5877 : ByteArray := prog_37_method_7_code
def yJx4a65c_grow_d5877 : MethodName := ⟨RJx4a65c, "grow", "()[Ljava/lang/Object;"⟩
abbrev cJx4a65c_size_8abf5 : ByteArray := prog_37_method_8_code
def yJx4a65c_size_8abf5 : MethodName := ⟨RJx4a65c, "size", "()I"⟩
abbrev cJx4a65c_elementData_915e3 : ByteArray := prog_37_method_18_code
def yJx4a65c_elementData_915e3 : MethodName := ⟨RJx4a65c, "elementData", "(I)Ljava/lang/Object;"⟩
abbrev cJx4a65c_get_915e3 : ByteArray := prog_37_method_20_code
def yJx4a65c_get_915e3 : MethodName := ⟨RJx4a65c, "get", "(I)Ljava/lang/Object;"⟩
abbrev cJx4a65c_add_72be8 : ByteArray := prog_37_method_24_code
def yJx4a65c_add_72be8 : MethodName := ⟨RJx4a65c, "add", "(Ljava/lang/Object;[Ljava/lang/Object;I)V"⟩
abbrev cJx4a65c_add_9ea2d : ByteArray := prog_37_method_25_code
def yJx4a65c_add_9ea2d : MethodName := ⟨RJx4a65c, "add", "(Ljava/lang/Object;)Z"⟩
abbrev cJx4a65c_iterator_32c93 : ByteArray := prog_37_method_55_code
def yJx4a65c_iterator_32c93 : MethodName := ⟨RJx4a65c, "iterator", "()Ljava/util/Iterator;"⟩
def RJ7 : String := "java/util/Arrays"
def TJ7 : u_T := fun k => match k with
  | _ => ("", "", "", false)
def tyJ7 : Nat → FieldType := fun k => match k with
  | _ => .int
abbrev wsJ70 : List Cond := u_ws RJ7 TJ7 0
theorem nmJ7 : ∀ a, a < 0 → ∀ b, b < 0 → a ≠ b → (TJ7 a).2.1 ≠ (TJ7 b).2.1 := by decide +kernel
theorem tyJ7_ok : ∀ k, k < 0 → parseFieldDescriptor (TJ7 k).2.2.1 = some (tyJ7 k) := by decide +kernel
abbrev cJ7_copyOf_1904c : ByteArray := prog_39_method_119_code
def yJ7_copyOf_1904c : MethodName := ⟨RJ7, "copyOf", "([Ljava/lang/Object;I)[Ljava/lang/Object;"⟩
abbrev cJ7_copyOf_6403c : ByteArray := prog_39_method_120_code
def yJ7_copyOf_6403c : MethodName := ⟨RJ7, "copyOf", "([Ljava/lang/Object;ILjava/lang/Class;)[Ljava/lang/Object;"⟩
abbrev cJ7_copyOf_9075b : ByteArray := prog_39_method_121_code
def yJ7_copyOf_9075b : MethodName := ⟨RJ7, "copyOf", "([BI)[B"⟩
abbrev cJ7_checkLength_df160 : ByteArray := prog_39_method_131_code
def yJ7_checkLength_df160 : MethodName := ⟨RJ7, "checkLength", "(II)V"⟩
abbrev cJ7_copyOfRange_39247 : ByteArray := prog_39_method_132_code
def yJ7_copyOfRange_39247 : MethodName := ⟨RJ7, "copyOfRange", "([BII)[B"⟩
abbrev cJ7_copyOfRangeByte_39247 : ByteArray := prog_39_method_133_code
def yJ7_copyOfRangeByte_39247 : MethodName := ⟨RJ7, "copyOfRangeByte", "([BII)[B"⟩
def RJx5ef63 : String := "java/util/Collection"
def TJx5ef63 : u_T := fun k => match k with
  | _ => ("", "", "", false)
def tyJx5ef63 : Nat → FieldType := fun k => match k with
  | _ => .int
abbrev wsJx5ef630 : List Cond := u_ws RJx5ef63 TJx5ef63 0
theorem nmJx5ef63 : ∀ a, a < 0 → ∀ b, b < 0 → a ≠ b → (TJx5ef63 a).2.1 ≠ (TJx5ef63 b).2.1 := by decide +kernel
theorem tyJx5ef63_ok : ∀ k, k < 0 → parseFieldDescriptor (TJx5ef63 k).2.2.1 = some (tyJx5ef63 k) := by decide +kernel
def RJx4d0d8 : String := "java/util/Iterator"
def TJx4d0d8 : u_T := fun k => match k with
  | _ => ("", "", "", false)
def tyJx4d0d8 : Nat → FieldType := fun k => match k with
  | _ => .int
abbrev wsJx4d0d80 : List Cond := u_ws RJx4d0d8 TJx4d0d8 0
theorem nmJx4d0d8 : ∀ a, a < 0 → ∀ b, b < 0 → a ≠ b → (TJx4d0d8 a).2.1 ≠ (TJx4d0d8 b).2.1 := by decide +kernel
theorem tyJx4d0d8_ok : ∀ k, k < 0 → parseFieldDescriptor (TJx4d0d8 k).2.2.1 = some (tyJx4d0d8 k) := by decide +kernel
def RJxbd725 : String := "java/util/List"
def TJxbd725 : u_T := fun k => match k with
  | _ => ("", "", "", false)
def tyJxbd725 : Nat → FieldType := fun k => match k with
  | _ => .int
abbrev wsJxbd7250 : List Cond := u_ws RJxbd725 TJxbd725 0
theorem nmJxbd725 : ∀ a, a < 0 → ∀ b, b < 0 → a ≠ b → (TJxbd725 a).2.1 ≠ (TJxbd725 b).2.1 := by decide +kernel
theorem tyJxbd725_ok : ∀ k, k < 0 → parseFieldDescriptor (TJxbd725 k).2.2.1 = some (tyJxbd725 k) := by decide +kernel
def RJ15 : String := "java/util/Objects"
def TJ15 : u_T := fun k => match k with
  | _ => ("", "", "", false)
def tyJ15 : Nat → FieldType := fun k => match k with
  | _ => .int
abbrev wsJ150 : List Cond := u_ws RJ15 TJ15 0
theorem nmJ15 : ∀ a, a < 0 → ∀ b, b < 0 → a ≠ b → (TJ15 a).2.1 ≠ (TJ15 b).2.1 := by decide +kernel
theorem tyJ15_ok : ∀ k, k < 0 → parseFieldDescriptor (TJ15 k).2.2.1 = some (tyJ15 k) := by decide +kernel
abbrev cJ15_checkIndex_7cf53 : ByteArray := prog_43_method_17_code
def yJ15_checkIndex_7cf53 : MethodName := ⟨RJ15, "checkIndex", "(II)I"⟩
def RJxf0a74 : String := "java/util/RandomAccess"
def TJxf0a74 : u_T := fun k => match k with
  | _ => ("", "", "", false)
def tyJxf0a74 : Nat → FieldType := fun k => match k with
  | _ => .int
abbrev wsJxf0a740 : List Cond := u_ws RJxf0a74 TJxf0a74 0
theorem nmJxf0a74 : ∀ a, a < 0 → ∀ b, b < 0 → a ≠ b → (TJxf0a74 a).2.1 ≠ (TJxf0a74 b).2.1 := by decide +kernel
theorem tyJxf0a74_ok : ∀ k, k < 0 → parseFieldDescriptor (TJxf0a74 k).2.2.1 = some (tyJxf0a74 k) := by decide +kernel
def RJxa66e6 : String := "java/util/SequencedCollection"
def TJxa66e6 : u_T := fun k => match k with
  | _ => ("", "", "", false)
def tyJxa66e6 : Nat → FieldType := fun k => match k with
  | _ => .int
abbrev wsJxa66e60 : List Cond := u_ws RJxa66e6 TJxa66e6 0
theorem nmJxa66e6 : ∀ a, a < 0 → ∀ b, b < 0 → a ≠ b → (TJxa66e6 a).2.1 ≠ (TJxa66e6 b).2.1 := by decide +kernel
theorem tyJxa66e6_ok : ∀ k, k < 0 → parseFieldDescriptor (TJxa66e6 k).2.2.1 = some (tyJxa66e6 k) := by decide +kernel
def RJ8 : String := "jdk/internal/util/ArraysSupport"
def TJ8 : u_T := fun k => match k with
  | _ => ("", "", "", false)
def tyJ8 : Nat → FieldType := fun k => match k with
  | _ => .int
abbrev wsJ80 : List Cond := u_ws RJ8 TJ8 0
theorem nmJ8 : ∀ a, a < 0 → ∀ b, b < 0 → a ≠ b → (TJ8 a).2.1 ≠ (TJ8 b).2.1 := by decide +kernel
theorem tyJ8_ok : ∀ k, k < 0 → parseFieldDescriptor (TJ8 k).2.2.1 = some (tyJ8 k) := by decide +kernel
abbrev cJ8_newLength_cabcc : ByteArray := prog_46_method_27_code
def yJ8_newLength_cabcc : MethodName := ⟨RJ8, "newLength", "(III)I"⟩
abbrev cJ8_hugeLength_7cf53 : ByteArray := prog_46_method_28_code
def yJ8_hugeLength_7cf53 : MethodName := ⟨RJ8, "hugeLength", "(II)I"⟩
def RJ3 : String := "jdk/internal/util/Preconditions"
def TJ3 : u_T := fun k => match k with
  | _ => ("", "", "", false)
def tyJ3 : Nat → FieldType := fun k => match k with
  | _ => .int
abbrev wsJ30 : List Cond := u_ws RJ3 TJ3 0
theorem nmJ3 : ∀ a, a < 0 → ∀ b, b < 0 → a ≠ b → (TJ3 a).2.1 ≠ (TJ3 b).2.1 := by decide +kernel
theorem tyJ3_ok : ∀ k, k < 0 → parseFieldDescriptor (TJ3 k).2.2.1 = some (tyJ3 k) := by decide +kernel
abbrev cJ3_checkIndex_8e157 : ByteArray := prog_47_method_11_code
def yJ3_checkIndex_8e157 : MethodName := ⟨RJ3, "checkIndex", "(IILjava/util/function/BiFunction;)I"⟩
abbrev cJ3_checkFromToIndex_8c36e : ByteArray := prog_47_method_12_code
def yJ3_checkFromToIndex_8c36e : MethodName := ⟨RJ3, "checkFromToIndex", "(IIILjava/util/function/BiFunction;)I"⟩
abbrev cJ3_checkFromIndexSize_8c36e : ByteArray := prog_47_method_13_code
def yJ3_checkFromIndexSize_8c36e : MethodName := ⟨RJ3, "checkFromIndexSize", "(IIILjava/util/function/BiFunction;)I"⟩
def RL : String := "RootDuelLaw"
abbrev cL_pick : ByteArray := method_2_code
def yL_pick : MethodName := ⟨RL, "pick", "([II)I"⟩
abbrev cL_puts : ByteArray := method_3_code
def yL_puts : MethodName := ⟨RL, "puts", "(LRootDuel;Ljava/lang/String;)V"⟩
abbrev cL_sign : ByteArray := method_4_code
def yL_sign : MethodName := ⟨RL, "sign", "(J)I"⟩
abbrev cL_fine : ByteArray := method_5_code
def yL_fine : MethodName := ⟨RL, "fine", "(LRootDuelLaw$Contest;I)J"⟩
abbrev cL_areRoots : ByteArray := method_6_code
def yL_areRoots : MethodName := ⟨RL, "areRoots", "(LRootDuel;LRootDuelLaw$Contest;)Z"⟩
abbrev cL_isBest : ByteArray := method_7_code
def yL_isBest : MethodName := ⟨RL, "isBest", "(LRootDuel;LRootDuelLaw$Contest;)Z"⟩
abbrev cL_law : ByteArray := code
def yL_law : MethodName := ⟨RL, "law", "([I)Z"⟩
/-- the tables' words that hold in every state of the run -/
def wsL_law : List Cond := lw_tbl.filter goodWord
theorem wsL_law_in : ∀ w ∈ wsL_law, w ∈ lw_tbl := fun _ h => (List.mem_filter.mp h).1
theorem wsL_GoodIn : GoodIn wsL_law wsL_law := fun w hw => ⟨hw, good_of_word (List.mem_filter.mp hw).2⟩
theorem big_of {w : Cond} (i : Nat) (h : tables_1[i]? = some w) (g : goodWord w = true) : w ∈ wsL_law := List.mem_filter.mpr ⟨List.mem_append_right _ (List.mem_of_getElem? h), g⟩
theorem big_sel {w : Cond} (i : Nat) (h : (k2_sels lw_privs)[i]? = some w) (g : goodWord w = true) : w ∈ wsL_law := List.mem_filter.mpr ⟨List.mem_append_left _ (List.mem_of_getElem? h), g⟩
abbrev vwCl : List vw_C := [(RX0, TX0, 9), (RX1, TX1, 2), (RX2, TX2, 13), (RX3, TX3, 4), (RX4, TX4, 9), (RX5, TX5, 5), (RX6, TX6, 14), (RX7, TX7, 2), (RJ4, TJ4, 4), (RJ0, TJ0, 4), (RJx4a65c, TJx4a65c, 3), (RJx35411, TJx35411, 4)]
theorem inX0 : ∀ w ∈ wsX00, w ∈ wsL_law := by decide +kernel
theorem inX1 : ∀ w ∈ wsX10, w ∈ wsL_law := by decide +kernel
theorem inX2 : ∀ w ∈ wsX20, w ∈ wsL_law := by decide +kernel
theorem inX3 : ∀ w ∈ wsX30, w ∈ wsL_law := by decide +kernel
theorem inX4 : ∀ w ∈ wsX40, w ∈ wsL_law := by decide +kernel
theorem inX5 : ∀ w ∈ wsX50, w ∈ wsL_law := by decide +kernel
theorem inX6 : ∀ w ∈ wsX60, w ∈ wsL_law := by decide +kernel
theorem inX7 : ∀ w ∈ wsX70, w ∈ wsL_law := by decide +kernel
theorem inJ4 : ∀ w ∈ wsJ40, w ∈ wsL_law := by decide +kernel
theorem inJ0 : ∀ w ∈ wsJ00, w ∈ wsL_law := by decide +kernel
theorem inJx4a65c : ∀ w ∈ wsJx4a65c0, w ∈ wsL_law := by decide +kernel
theorem inJx35411 : ∀ w ∈ wsJx354110, w ∈ wsL_law := by decide +kernel
end
section
theorem dX0_init_0 : decode cX0_init 0 = .ok (.aload_n 0, 1) := by decide +kernel
theorem dX0_init_1 : decode cX0_init 1 = .ok (.invokespecial 3, 3) := by decide +kernel
theorem dX0_init_4 : decode cX0_init 4 = .ok (.aload_n 0, 1) := by decide +kernel
theorem dX0_init_5 : decode cX0_init 5 = .ok (.bipush 7, 2) := by decide +kernel
theorem dX0_init_7 : decode cX0_init 7 = .ok (.newarray .int, 2) := by decide +kernel
theorem dX0_init_9 : decode cX0_init 9 = .ok (.putfield 9, 3) := by decide +kernel
theorem dX0_init_12 : decode cX0_init 12 = .ok (.aload_n 0, 1) := by decide +kernel
theorem dX0_init_13 : decode cX0_init 13 = .ok (.iconst 5, 1) := by decide +kernel
theorem dX0_init_14 : decode cX0_init 14 = .ok (.newarray .int, 2) := by decide +kernel
theorem dX0_init_16 : decode cX0_init 16 = .ok (.putfield 15, 3) := by decide +kernel
theorem dX0_init_19 : decode cX0_init 19 = .ok (.aload_n 0, 1) := by decide +kernel
theorem dX0_init_20 : decode cX0_init 20 = .ok (.bipush 60, 2) := by decide +kernel
theorem dX0_init_22 : decode cX0_init 22 = .ok (.newarray .int, 2) := by decide +kernel
theorem dX0_init_24 : decode cX0_init 24 = .ok (.putfield 18, 3) := by decide +kernel
theorem dX0_init_27 : decode cX0_init 27 = .ok (.aload_n 0, 1) := by decide +kernel
theorem dX0_init_28 : decode cX0_init 28 = .ok (.bipush 60, 2) := by decide +kernel
theorem dX0_init_30 : decode cX0_init 30 = .ok (.newarray .int, 2) := by decide +kernel
theorem dX0_init_32 : decode cX0_init 32 = .ok (.putfield 21, 3) := by decide +kernel
theorem dX0_init_35 : decode cX0_init 35 = .ok (.aload_n 0, 1) := by decide +kernel
theorem dX0_init_36 : decode cX0_init 36 = .ok (.bipush 48, 2) := by decide +kernel
theorem dX0_init_38 : decode cX0_init 38 = .ok (.newarray .int, 2) := by decide +kernel
theorem dX0_init_40 : decode cX0_init 40 = .ok (.putfield 24, 3) := by decide +kernel
theorem dX0_init_43 : decode cX0_init 43 = .ok (.aload_n 0, 1) := by decide +kernel
theorem dX0_init_44 : decode cX0_init 44 = .ok (.iconst 2, 1) := by decide +kernel
theorem dX0_init_45 : decode cX0_init 45 = .ok (.newarray .int, 2) := by decide +kernel
theorem dX0_init_47 : decode cX0_init 47 = .ok (.putfield 27, 3) := by decide +kernel
theorem dX0_init_50 : decode cX0_init 50 = .ok (.aload_n 0, 1) := by decide +kernel
theorem dX0_init_51 : decode cX0_init 51 = .ok (.invokevirtual 30, 3) := by decide +kernel
theorem dX0_init_54 : decode cX0_init 54 = .ok (.return_, 1) := by decide +kernel
theorem dX0_begin_0 : decode cX0_begin 0 = .ok (.getstatic 33, 3) := by decide +kernel
theorem dX0_begin_3 : decode cX0_begin 3 = .ok (.iconst 0, 1) := by decide +kernel
theorem dX0_begin_4 : decode cX0_begin 4 = .ok (.aload_n 0, 1) := by decide +kernel
theorem dX0_begin_5 : decode cX0_begin 5 = .ok (.getfield 9, 3) := by decide +kernel
theorem dX0_begin_8 : decode cX0_begin 8 = .ok (.iconst 0, 1) := by decide +kernel
theorem dX0_begin_9 : decode cX0_begin 9 = .ok (.bipush 7, 2) := by decide +kernel
theorem dX0_begin_11 : decode cX0_begin 11 = .ok (.invokestatic 36, 3) := by decide +kernel
theorem dX0_begin_14 : decode cX0_begin 14 = .ok (.iconst 0, 1) := by decide +kernel
theorem dX0_begin_15 : decode cX0_begin 15 = .ok (.istore_n 1, 1) := by decide +kernel
theorem dX0_begin_16 : decode cX0_begin 16 = .ok (.iload_n 1, 1) := by decide +kernel
theorem dX0_begin_17 : decode cX0_begin 17 = .ok (.iconst 5, 1) := by decide +kernel
theorem dX0_begin_18 : decode cX0_begin 18 = .ok (.if_icmp .ge 16, 3) := by decide +kernel
theorem dX0_begin_21 : decode cX0_begin 21 = .ok (.aload_n 0, 1) := by decide +kernel
theorem dX0_begin_22 : decode cX0_begin 22 = .ok (.getfield 15, 3) := by decide +kernel
theorem dX0_begin_25 : decode cX0_begin 25 = .ok (.iload_n 1, 1) := by decide +kernel
theorem dX0_begin_26 : decode cX0_begin 26 = .ok (.iconst 0, 1) := by decide +kernel
theorem dX0_begin_27 : decode cX0_begin 27 = .ok (.iastore, 1) := by decide +kernel
theorem dX0_begin_28 : decode cX0_begin 28 = .ok (.iinc 1 1, 3) := by decide +kernel
theorem dX0_begin_31 : decode cX0_begin 31 = .ok (.goto (-15), 3) := by decide +kernel
theorem dX0_begin_34 : decode cX0_begin 34 = .ok (.aload_n 0, 1) := by decide +kernel
theorem dX0_begin_35 : decode cX0_begin 35 = .ok (.getfield 27, 3) := by decide +kernel
theorem dX0_begin_38 : decode cX0_begin 38 = .ok (.iconst 0, 1) := by decide +kernel
theorem dX0_begin_39 : decode cX0_begin 39 = .ok (.iconst 0, 1) := by decide +kernel
theorem dX0_begin_40 : decode cX0_begin 40 = .ok (.iastore, 1) := by decide +kernel
theorem dX0_begin_41 : decode cX0_begin 41 = .ok (.aload_n 0, 1) := by decide +kernel
theorem dX0_begin_42 : decode cX0_begin 42 = .ok (.getfield 27, 3) := by decide +kernel
theorem dX0_begin_45 : decode cX0_begin 45 = .ok (.iconst 1, 1) := by decide +kernel
theorem dX0_begin_46 : decode cX0_begin 46 = .ok (.iconst 0, 1) := by decide +kernel
theorem dX0_begin_47 : decode cX0_begin 47 = .ok (.iastore, 1) := by decide +kernel
theorem dX0_begin_48 : decode cX0_begin 48 = .ok (.aload_n 0, 1) := by decide +kernel
theorem dX0_begin_49 : decode cX0_begin 49 = .ok (.iconst 0, 1) := by decide +kernel
theorem dX0_begin_50 : decode cX0_begin 50 = .ok (.putfield 42, 3) := by decide +kernel
theorem dX0_begin_53 : decode cX0_begin 53 = .ok (.aload_n 0, 1) := by decide +kernel
theorem dX0_begin_54 : decode cX0_begin 54 = .ok (.iconst 0, 1) := by decide +kernel
theorem dX0_begin_55 : decode cX0_begin 55 = .ok (.putfield 46, 3) := by decide +kernel
theorem dX0_begin_58 : decode cX0_begin 58 = .ok (.aload_n 0, 1) := by decide +kernel
theorem dX0_begin_59 : decode cX0_begin 59 = .ok (.iconst (-1), 1) := by decide +kernel
theorem dX0_begin_60 : decode cX0_begin 60 = .ok (.putfield 50, 3) := by decide +kernel
theorem dX0_begin_63 : decode cX0_begin 63 = .ok (.return_, 1) := by decide +kernel
theorem dX0_copyFrom_0 : decode cX0_copyFrom 0 = .ok (.aload_n 1, 1) := by decide +kernel
theorem dX0_copyFrom_1 : decode cX0_copyFrom 1 = .ok (.ifnonnull 4, 3) := by decide +kernel
theorem dX0_copyFrom_4 : decode cX0_copyFrom 4 = .ok (.return_, 1) := by decide +kernel
theorem dX0_copyFrom_5 : decode cX0_copyFrom 5 = .ok (.aload_n 1, 1) := by decide +kernel
theorem dX0_copyFrom_6 : decode cX0_copyFrom 6 = .ok (.getfield 9, 3) := by decide +kernel
theorem dX0_copyFrom_9 : decode cX0_copyFrom 9 = .ok (.iconst 0, 1) := by decide +kernel
theorem dX0_copyFrom_10 : decode cX0_copyFrom 10 = .ok (.aload_n 0, 1) := by decide +kernel
theorem dX0_copyFrom_11 : decode cX0_copyFrom 11 = .ok (.getfield 9, 3) := by decide +kernel
theorem dX0_copyFrom_14 : decode cX0_copyFrom 14 = .ok (.iconst 0, 1) := by decide +kernel
theorem dX0_copyFrom_15 : decode cX0_copyFrom 15 = .ok (.bipush 7, 2) := by decide +kernel
theorem dX0_copyFrom_17 : decode cX0_copyFrom 17 = .ok (.invokestatic 36, 3) := by decide +kernel
theorem dX0_copyFrom_20 : decode cX0_copyFrom 20 = .ok (.aload_n 1, 1) := by decide +kernel
theorem dX0_copyFrom_21 : decode cX0_copyFrom 21 = .ok (.getfield 15, 3) := by decide +kernel
theorem dX0_copyFrom_24 : decode cX0_copyFrom 24 = .ok (.iconst 0, 1) := by decide +kernel
theorem dX0_copyFrom_25 : decode cX0_copyFrom 25 = .ok (.aload_n 0, 1) := by decide +kernel
theorem dX0_copyFrom_26 : decode cX0_copyFrom 26 = .ok (.getfield 15, 3) := by decide +kernel
theorem dX0_copyFrom_29 : decode cX0_copyFrom 29 = .ok (.iconst 0, 1) := by decide +kernel
theorem dX0_copyFrom_30 : decode cX0_copyFrom 30 = .ok (.iconst 5, 1) := by decide +kernel
theorem dX0_copyFrom_31 : decode cX0_copyFrom 31 = .ok (.invokestatic 36, 3) := by decide +kernel
theorem dX0_copyFrom_34 : decode cX0_copyFrom 34 = .ok (.aload_n 1, 1) := by decide +kernel
theorem dX0_copyFrom_35 : decode cX0_copyFrom 35 = .ok (.getfield 18, 3) := by decide +kernel
theorem dX0_copyFrom_38 : decode cX0_copyFrom 38 = .ok (.iconst 0, 1) := by decide +kernel
theorem dX0_copyFrom_39 : decode cX0_copyFrom 39 = .ok (.aload_n 0, 1) := by decide +kernel
theorem dX0_copyFrom_40 : decode cX0_copyFrom 40 = .ok (.getfield 18, 3) := by decide +kernel
theorem dX0_copyFrom_43 : decode cX0_copyFrom 43 = .ok (.iconst 0, 1) := by decide +kernel
theorem dX0_copyFrom_44 : decode cX0_copyFrom 44 = .ok (.bipush 60, 2) := by decide +kernel
theorem dX0_copyFrom_46 : decode cX0_copyFrom 46 = .ok (.invokestatic 36, 3) := by decide +kernel
theorem dX0_copyFrom_49 : decode cX0_copyFrom 49 = .ok (.aload_n 1, 1) := by decide +kernel
theorem dX0_copyFrom_50 : decode cX0_copyFrom 50 = .ok (.getfield 21, 3) := by decide +kernel
theorem dX0_copyFrom_53 : decode cX0_copyFrom 53 = .ok (.iconst 0, 1) := by decide +kernel
theorem dX0_copyFrom_54 : decode cX0_copyFrom 54 = .ok (.aload_n 0, 1) := by decide +kernel
theorem dX0_copyFrom_55 : decode cX0_copyFrom 55 = .ok (.getfield 21, 3) := by decide +kernel
theorem dX0_copyFrom_58 : decode cX0_copyFrom 58 = .ok (.iconst 0, 1) := by decide +kernel
theorem dX0_copyFrom_59 : decode cX0_copyFrom 59 = .ok (.bipush 60, 2) := by decide +kernel
theorem dX0_copyFrom_61 : decode cX0_copyFrom 61 = .ok (.invokestatic 36, 3) := by decide +kernel
theorem dX0_copyFrom_64 : decode cX0_copyFrom 64 = .ok (.aload_n 1, 1) := by decide +kernel
theorem dX0_copyFrom_65 : decode cX0_copyFrom 65 = .ok (.getfield 24, 3) := by decide +kernel
theorem dX0_copyFrom_68 : decode cX0_copyFrom 68 = .ok (.iconst 0, 1) := by decide +kernel
theorem dX0_copyFrom_69 : decode cX0_copyFrom 69 = .ok (.aload_n 0, 1) := by decide +kernel
theorem dX0_copyFrom_70 : decode cX0_copyFrom 70 = .ok (.getfield 24, 3) := by decide +kernel
theorem dX0_copyFrom_73 : decode cX0_copyFrom 73 = .ok (.iconst 0, 1) := by decide +kernel
theorem dX0_copyFrom_74 : decode cX0_copyFrom 74 = .ok (.bipush 48, 2) := by decide +kernel
theorem dX0_copyFrom_76 : decode cX0_copyFrom 76 = .ok (.invokestatic 36, 3) := by decide +kernel
theorem dX0_copyFrom_79 : decode cX0_copyFrom 79 = .ok (.aload_n 1, 1) := by decide +kernel
theorem dX0_copyFrom_80 : decode cX0_copyFrom 80 = .ok (.getfield 27, 3) := by decide +kernel
theorem dX0_copyFrom_83 : decode cX0_copyFrom 83 = .ok (.iconst 0, 1) := by decide +kernel
theorem dX0_copyFrom_84 : decode cX0_copyFrom 84 = .ok (.aload_n 0, 1) := by decide +kernel
theorem dX0_copyFrom_85 : decode cX0_copyFrom 85 = .ok (.getfield 27, 3) := by decide +kernel
theorem dX0_copyFrom_88 : decode cX0_copyFrom 88 = .ok (.iconst 0, 1) := by decide +kernel
theorem dX0_copyFrom_89 : decode cX0_copyFrom 89 = .ok (.iconst 2, 1) := by decide +kernel
theorem dX0_copyFrom_90 : decode cX0_copyFrom 90 = .ok (.invokestatic 36, 3) := by decide +kernel
theorem dX0_copyFrom_93 : decode cX0_copyFrom 93 = .ok (.aload_n 0, 1) := by decide +kernel
theorem dX0_copyFrom_94 : decode cX0_copyFrom 94 = .ok (.aload_n 1, 1) := by decide +kernel
theorem dX0_copyFrom_95 : decode cX0_copyFrom 95 = .ok (.getfield 42, 3) := by decide +kernel
theorem dX0_copyFrom_98 : decode cX0_copyFrom 98 = .ok (.putfield 42, 3) := by decide +kernel
theorem dX0_copyFrom_101 : decode cX0_copyFrom 101 = .ok (.aload_n 0, 1) := by decide +kernel
theorem dX0_copyFrom_102 : decode cX0_copyFrom 102 = .ok (.aload_n 1, 1) := by decide +kernel
theorem dX0_copyFrom_103 : decode cX0_copyFrom 103 = .ok (.getfield 46, 3) := by decide +kernel
theorem dX0_copyFrom_106 : decode cX0_copyFrom 106 = .ok (.putfield 46, 3) := by decide +kernel
theorem dX0_copyFrom_109 : decode cX0_copyFrom 109 = .ok (.aload_n 0, 1) := by decide +kernel
theorem dX0_copyFrom_110 : decode cX0_copyFrom 110 = .ok (.aload_n 1, 1) := by decide +kernel
theorem dX0_copyFrom_111 : decode cX0_copyFrom 111 = .ok (.getfield 50, 3) := by decide +kernel
theorem dX0_copyFrom_114 : decode cX0_copyFrom 114 = .ok (.putfield 50, 3) := by decide +kernel
theorem dX0_copyFrom_117 : decode cX0_copyFrom 117 = .ok (.return_, 1) := by decide +kernel
theorem dX0_mover_0 : decode cX0_mover 0 = .ok (.aload_n 0, 1) := by decide +kernel
theorem dX0_mover_1 : decode cX0_mover 1 = .ok (.getfield 42, 3) := by decide +kernel
theorem dX0_mover_4 : decode cX0_mover 4 = .ok (.iconst 2, 1) := by decide +kernel
theorem dX0_mover_5 : decode cX0_mover 5 = .ok (.irem, 1) := by decide +kernel
theorem dX0_mover_6 : decode cX0_mover 6 = .ok (.ireturn, 1) := by decide +kernel
theorem dX0_hasPower_0 : decode cX0_hasPower 0 = .ok (.iload_n 1, 1) := by decide +kernel
theorem dX0_hasPower_1 : decode cX0_hasPower 1 = .ok (.ifCond .lt 22, 3) := by decide +kernel
theorem dX0_hasPower_4 : decode cX0_hasPower 4 = .ok (.iload_n 1, 1) := by decide +kernel
theorem dX0_hasPower_5 : decode cX0_hasPower 5 = .ok (.aload_n 0, 1) := by decide +kernel
theorem dX0_hasPower_6 : decode cX0_hasPower 6 = .ok (.getfield 9, 3) := by decide +kernel
theorem dX0_hasPower_9 : decode cX0_hasPower 9 = .ok (.iconst 0, 1) := by decide +kernel
theorem dX0_hasPower_10 : decode cX0_hasPower 10 = .ok (.iaload, 1) := by decide +kernel
theorem dX0_hasPower_11 : decode cX0_hasPower 11 = .ok (.if_icmp .ge 12, 3) := by decide +kernel
theorem dX0_hasPower_14 : decode cX0_hasPower 14 = .ok (.iload_n 1, 1) := by decide +kernel
theorem dX0_hasPower_15 : decode cX0_hasPower 15 = .ok (.iconst 5, 1) := by decide +kernel
theorem dX0_hasPower_16 : decode cX0_hasPower 16 = .ok (.if_icmp .ge 7, 3) := by decide +kernel
theorem dX0_hasPower_19 : decode cX0_hasPower 19 = .ok (.iconst 1, 1) := by decide +kernel
theorem dX0_hasPower_20 : decode cX0_hasPower 20 = .ok (.goto 4, 3) := by decide +kernel
theorem dX0_hasPower_23 : decode cX0_hasPower 23 = .ok (.iconst 0, 1) := by decide +kernel
theorem dX0_hasPower_24 : decode cX0_hasPower 24 = .ok (.ireturn, 1) := by decide +kernel
theorem dX0_lastTurnOn_0 : decode cX0_lastTurnOn 0 = .ok (.aload_n 0, 1) := by decide +kernel
theorem dX0_lastTurnOn_1 : decode cX0_lastTurnOn 1 = .ok (.getfield 42, 3) := by decide +kernel
theorem dX0_lastTurnOn_4 : decode cX0_lastTurnOn 4 = .ok (.bipush 60, 2) := by decide +kernel
theorem dX0_lastTurnOn_6 : decode cX0_lastTurnOn 6 = .ok (.invokestatic 53, 3) := by decide +kernel
theorem dX0_lastTurnOn_9 : decode cX0_lastTurnOn 9 = .ok (.iconst 1, 1) := by decide +kernel
theorem dX0_lastTurnOn_10 : decode cX0_lastTurnOn 10 = .ok (.isub, 1) := by decide +kernel
theorem dX0_lastTurnOn_11 : decode cX0_lastTurnOn 11 = .ok (.istore_n 2, 1) := by decide +kernel
theorem dX0_lastTurnOn_12 : decode cX0_lastTurnOn 12 = .ok (.iload_n 2, 1) := by decide +kernel
theorem dX0_lastTurnOn_13 : decode cX0_lastTurnOn 13 = .ok (.ifCond .lt 30, 3) := by decide +kernel
theorem dX0_lastTurnOn_16 : decode cX0_lastTurnOn 16 = .ok (.aload_n 0, 1) := by decide +kernel
theorem dX0_lastTurnOn_17 : decode cX0_lastTurnOn 17 = .ok (.getfield 18, 3) := by decide +kernel
theorem dX0_lastTurnOn_20 : decode cX0_lastTurnOn 20 = .ok (.iload_n 2, 1) := by decide +kernel
theorem dX0_lastTurnOn_21 : decode cX0_lastTurnOn 21 = .ok (.iaload, 1) := by decide +kernel
theorem dX0_lastTurnOn_22 : decode cX0_lastTurnOn 22 = .ok (.ifCond .eq 15, 3) := by decide +kernel
theorem dX0_lastTurnOn_25 : decode cX0_lastTurnOn 25 = .ok (.aload_n 0, 1) := by decide +kernel
theorem dX0_lastTurnOn_26 : decode cX0_lastTurnOn 26 = .ok (.getfield 21, 3) := by decide +kernel
theorem dX0_lastTurnOn_29 : decode cX0_lastTurnOn 29 = .ok (.iload_n 2, 1) := by decide +kernel
theorem dX0_lastTurnOn_30 : decode cX0_lastTurnOn 30 = .ok (.iaload, 1) := by decide +kernel
theorem dX0_lastTurnOn_31 : decode cX0_lastTurnOn 31 = .ok (.iload_n 1, 1) := by decide +kernel
theorem dX0_lastTurnOn_32 : decode cX0_lastTurnOn 32 = .ok (.if_icmp .ne 5, 3) := by decide +kernel
theorem dX0_lastTurnOn_35 : decode cX0_lastTurnOn 35 = .ok (.iload_n 2, 1) := by decide +kernel
theorem dX0_lastTurnOn_36 : decode cX0_lastTurnOn 36 = .ok (.ireturn, 1) := by decide +kernel
theorem dX0_lastTurnOn_37 : decode cX0_lastTurnOn 37 = .ok (.iinc 2 (-1), 3) := by decide +kernel
theorem dX0_lastTurnOn_40 : decode cX0_lastTurnOn 40 = .ok (.goto (-28), 3) := by decide +kernel
theorem dX0_lastTurnOn_43 : decode cX0_lastTurnOn 43 = .ok (.iconst (-1), 1) := by decide +kernel
theorem dX0_lastTurnOn_44 : decode cX0_lastTurnOn 44 = .ok (.ireturn, 1) := by decide +kernel
theorem dX0_termsOn_0 : decode cX0_termsOn 0 = .ok (.iconst 0, 1) := by decide +kernel
theorem dX0_termsOn_1 : decode cX0_termsOn 1 = .ok (.istore_n 2, 1) := by decide +kernel
theorem dX0_termsOn_2 : decode cX0_termsOn 2 = .ok (.iconst 0, 1) := by decide +kernel
theorem dX0_termsOn_3 : decode cX0_termsOn 3 = .ok (.istore_n 3, 1) := by decide +kernel
theorem dX0_termsOn_4 : decode cX0_termsOn 4 = .ok (.iload_n 3, 1) := by decide +kernel
theorem dX0_termsOn_5 : decode cX0_termsOn 5 = .ok (.aload_n 0, 1) := by decide +kernel
theorem dX0_termsOn_6 : decode cX0_termsOn 6 = .ok (.getfield 42, 3) := by decide +kernel
theorem dX0_termsOn_9 : decode cX0_termsOn 9 = .ok (.if_icmp .ge 37, 3) := by decide +kernel
theorem dX0_termsOn_12 : decode cX0_termsOn 12 = .ok (.iload_n 3, 1) := by decide +kernel
theorem dX0_termsOn_13 : decode cX0_termsOn 13 = .ok (.bipush 60, 2) := by decide +kernel
theorem dX0_termsOn_15 : decode cX0_termsOn 15 = .ok (.if_icmp .ge 31, 3) := by decide +kernel
theorem dX0_termsOn_18 : decode cX0_termsOn 18 = .ok (.aload_n 0, 1) := by decide +kernel
theorem dX0_termsOn_19 : decode cX0_termsOn 19 = .ok (.getfield 18, 3) := by decide +kernel
theorem dX0_termsOn_22 : decode cX0_termsOn 22 = .ok (.iload_n 3, 1) := by decide +kernel
theorem dX0_termsOn_23 : decode cX0_termsOn 23 = .ok (.iaload, 1) := by decide +kernel
theorem dX0_termsOn_24 : decode cX0_termsOn 24 = .ok (.ifCond .eq 16, 3) := by decide +kernel
theorem dX0_termsOn_27 : decode cX0_termsOn 27 = .ok (.aload_n 0, 1) := by decide +kernel
theorem dX0_termsOn_28 : decode cX0_termsOn 28 = .ok (.getfield 21, 3) := by decide +kernel
theorem dX0_termsOn_31 : decode cX0_termsOn 31 = .ok (.iload_n 3, 1) := by decide +kernel
theorem dX0_termsOn_32 : decode cX0_termsOn 32 = .ok (.iaload, 1) := by decide +kernel
theorem dX0_termsOn_33 : decode cX0_termsOn 33 = .ok (.iload_n 1, 1) := by decide +kernel
theorem dX0_termsOn_34 : decode cX0_termsOn 34 = .ok (.if_icmp .ne 6, 3) := by decide +kernel
theorem dX0_termsOn_37 : decode cX0_termsOn 37 = .ok (.iinc 2 1, 3) := by decide +kernel
theorem dX0_termsOn_40 : decode cX0_termsOn 40 = .ok (.iinc 3 1, 3) := by decide +kernel
theorem dX0_termsOn_43 : decode cX0_termsOn 43 = .ok (.goto (-39), 3) := by decide +kernel
theorem dX0_termsOn_46 : decode cX0_termsOn 46 = .ok (.iload_n 2, 1) := by decide +kernel
theorem dX0_termsOn_47 : decode cX0_termsOn 47 = .ok (.ireturn, 1) := by decide +kernel
theorem dX0_termsOf_0 : decode cX0_termsOf 0 = .ok (.iconst 0, 1) := by decide +kernel
theorem dX0_termsOf_1 : decode cX0_termsOf 1 = .ok (.istore_n 2, 1) := by decide +kernel
theorem dX0_termsOf_2 : decode cX0_termsOf 2 = .ok (.iconst 0, 1) := by decide +kernel
theorem dX0_termsOf_3 : decode cX0_termsOf 3 = .ok (.istore_n 3, 1) := by decide +kernel
theorem dX0_termsOf_4 : decode cX0_termsOf 4 = .ok (.iload_n 3, 1) := by decide +kernel
theorem dX0_termsOf_5 : decode cX0_termsOf 5 = .ok (.aload_n 0, 1) := by decide +kernel
theorem dX0_termsOf_6 : decode cX0_termsOf 6 = .ok (.getfield 42, 3) := by decide +kernel
theorem dX0_termsOf_9 : decode cX0_termsOf 9 = .ok (.if_icmp .ge 34, 3) := by decide +kernel
theorem dX0_termsOf_12 : decode cX0_termsOf 12 = .ok (.iload_n 3, 1) := by decide +kernel
theorem dX0_termsOf_13 : decode cX0_termsOf 13 = .ok (.bipush 60, 2) := by decide +kernel
theorem dX0_termsOf_15 : decode cX0_termsOf 15 = .ok (.if_icmp .ge 28, 3) := by decide +kernel
theorem dX0_termsOf_18 : decode cX0_termsOf 18 = .ok (.aload_n 0, 1) := by decide +kernel
theorem dX0_termsOf_19 : decode cX0_termsOf 19 = .ok (.getfield 18, 3) := by decide +kernel
theorem dX0_termsOf_22 : decode cX0_termsOf 22 = .ok (.iload_n 3, 1) := by decide +kernel
theorem dX0_termsOf_23 : decode cX0_termsOf 23 = .ok (.iaload, 1) := by decide +kernel
theorem dX0_termsOf_24 : decode cX0_termsOf 24 = .ok (.ifCond .eq 13, 3) := by decide +kernel
theorem dX0_termsOf_27 : decode cX0_termsOf 27 = .ok (.iload_n 3, 1) := by decide +kernel
theorem dX0_termsOf_28 : decode cX0_termsOf 28 = .ok (.iconst 2, 1) := by decide +kernel
theorem dX0_termsOf_29 : decode cX0_termsOf 29 = .ok (.irem, 1) := by decide +kernel
theorem dX0_termsOf_30 : decode cX0_termsOf 30 = .ok (.iload_n 1, 1) := by decide +kernel
theorem dX0_termsOf_31 : decode cX0_termsOf 31 = .ok (.if_icmp .ne 6, 3) := by decide +kernel
theorem dX0_termsOf_34 : decode cX0_termsOf 34 = .ok (.iinc 2 1, 3) := by decide +kernel
theorem dX0_termsOf_37 : decode cX0_termsOf 37 = .ok (.iinc 3 1, 3) := by decide +kernel
theorem dX0_termsOf_40 : decode cX0_termsOf 40 = .ok (.goto (-36), 3) := by decide +kernel
theorem dX0_termsOf_43 : decode cX0_termsOf 43 = .ok (.iload_n 2, 1) := by decide +kernel
theorem dX0_termsOf_44 : decode cX0_termsOf 44 = .ok (.ireturn, 1) := by decide +kernel
theorem dX0_termsLaid_0 : decode cX0_termsLaid 0 = .ok (.aload_n 0, 1) := by decide +kernel
theorem dX0_termsLaid_1 : decode cX0_termsLaid 1 = .ok (.iconst 0, 1) := by decide +kernel
theorem dX0_termsLaid_2 : decode cX0_termsLaid 2 = .ok (.invokevirtual 59, 3) := by decide +kernel
theorem dX0_termsLaid_5 : decode cX0_termsLaid 5 = .ok (.aload_n 0, 1) := by decide +kernel
theorem dX0_termsLaid_6 : decode cX0_termsLaid 6 = .ok (.iconst 1, 1) := by decide +kernel
theorem dX0_termsLaid_7 : decode cX0_termsLaid 7 = .ok (.invokevirtual 59, 3) := by decide +kernel
theorem dX0_termsLaid_10 : decode cX0_termsLaid 10 = .ok (.iadd, 1) := by decide +kernel
theorem dX0_termsLaid_11 : decode cX0_termsLaid 11 = .ok (.ireturn, 1) := by decide +kernel
theorem dX0_isBarred_0 : decode cX0_isBarred 0 = .ok (.aload_n 0, 1) := by decide +kernel
theorem dX0_isBarred_1 : decode cX0_isBarred 1 = .ok (.iload_n 1, 1) := by decide +kernel
theorem dX0_isBarred_2 : decode cX0_isBarred 2 = .ok (.invokevirtual 63, 3) := by decide +kernel
theorem dX0_isBarred_5 : decode cX0_isBarred 5 = .ok (.istore_n 2, 1) := by decide +kernel
theorem dX0_isBarred_6 : decode cX0_isBarred 6 = .ok (.iload_n 2, 1) := by decide +kernel
theorem dX0_isBarred_7 : decode cX0_isBarred 7 = .ok (.iconst (-1), 1) := by decide +kernel
theorem dX0_isBarred_8 : decode cX0_isBarred 8 = .ok (.if_icmp .eq 31, 3) := by decide +kernel
theorem dX0_isBarred_11 : decode cX0_isBarred 11 = .ok (.aload_n 0, 1) := by decide +kernel
theorem dX0_isBarred_12 : decode cX0_isBarred 12 = .ok (.getfield 9, 3) := by decide +kernel
theorem dX0_isBarred_15 : decode cX0_isBarred 15 = .ok (.iconst 1, 1) := by decide +kernel
theorem dX0_isBarred_16 : decode cX0_isBarred 16 = .ok (.iaload, 1) := by decide +kernel
theorem dX0_isBarred_17 : decode cX0_isBarred 17 = .ok (.ifCond .eq 18, 3) := by decide +kernel
theorem dX0_isBarred_20 : decode cX0_isBarred 20 = .ok (.aload_n 0, 1) := by decide +kernel
theorem dX0_isBarred_21 : decode cX0_isBarred 21 = .ok (.getfield 42, 3) := by decide +kernel
theorem dX0_isBarred_24 : decode cX0_isBarred 24 = .ok (.iload_n 2, 1) := by decide +kernel
theorem dX0_isBarred_25 : decode cX0_isBarred 25 = .ok (.aload_n 0, 1) := by decide +kernel
theorem dX0_isBarred_26 : decode cX0_isBarred 26 = .ok (.getfield 9, 3) := by decide +kernel
theorem dX0_isBarred_29 : decode cX0_isBarred 29 = .ok (.iconst 1, 1) := by decide +kernel
theorem dX0_isBarred_30 : decode cX0_isBarred 30 = .ok (.iaload, 1) := by decide +kernel
theorem dX0_isBarred_31 : decode cX0_isBarred 31 = .ok (.iadd, 1) := by decide +kernel
theorem dX0_isBarred_32 : decode cX0_isBarred 32 = .ok (.if_icmp .gt 7, 3) := by decide +kernel
theorem dX0_isBarred_35 : decode cX0_isBarred 35 = .ok (.iconst 1, 1) := by decide +kernel
theorem dX0_isBarred_36 : decode cX0_isBarred 36 = .ok (.goto 4, 3) := by decide +kernel
theorem dX0_isBarred_39 : decode cX0_isBarred 39 = .ok (.iconst 0, 1) := by decide +kernel
theorem dX0_isBarred_40 : decode cX0_isBarred 40 = .ok (.ireturn, 1) := by decide +kernel
theorem dX0_barredPowers_0 : decode cX0_barredPowers 0 = .ok (.iconst 0, 1) := by decide +kernel
theorem dX0_barredPowers_1 : decode cX0_barredPowers 1 = .ok (.istore_n 1, 1) := by decide +kernel
theorem dX0_barredPowers_2 : decode cX0_barredPowers 2 = .ok (.iconst 0, 1) := by decide +kernel
theorem dX0_barredPowers_3 : decode cX0_barredPowers 3 = .ok (.istore_n 2, 1) := by decide +kernel
theorem dX0_barredPowers_4 : decode cX0_barredPowers 4 = .ok (.iload_n 2, 1) := by decide +kernel
theorem dX0_barredPowers_5 : decode cX0_barredPowers 5 = .ok (.aload_n 0, 1) := by decide +kernel
theorem dX0_barredPowers_6 : decode cX0_barredPowers 6 = .ok (.getfield 9, 3) := by decide +kernel
theorem dX0_barredPowers_9 : decode cX0_barredPowers 9 = .ok (.iconst 0, 1) := by decide +kernel
theorem dX0_barredPowers_10 : decode cX0_barredPowers 10 = .ok (.iaload, 1) := by decide +kernel
theorem dX0_barredPowers_11 : decode cX0_barredPowers 11 = .ok (.if_icmp .ge 20, 3) := by decide +kernel
theorem dX0_barredPowers_14 : decode cX0_barredPowers 14 = .ok (.aload_n 0, 1) := by decide +kernel
theorem dX0_barredPowers_15 : decode cX0_barredPowers 15 = .ok (.iload_n 2, 1) := by decide +kernel
theorem dX0_barredPowers_16 : decode cX0_barredPowers 16 = .ok (.invokevirtual 66, 3) := by decide +kernel
theorem dX0_barredPowers_19 : decode cX0_barredPowers 19 = .ok (.ifCond .eq 6, 3) := by decide +kernel
theorem dX0_barredPowers_22 : decode cX0_barredPowers 22 = .ok (.iinc 1 1, 3) := by decide +kernel
theorem dX0_barredPowers_25 : decode cX0_barredPowers 25 = .ok (.iinc 2 1, 3) := by decide +kernel
theorem dX0_barredPowers_28 : decode cX0_barredPowers 28 = .ok (.goto (-24), 3) := by decide +kernel
theorem dX0_barredPowers_31 : decode cX0_barredPowers 31 = .ok (.iload_n 1, 1) := by decide +kernel
theorem dX0_barredPowers_32 : decode cX0_barredPowers 32 = .ok (.ireturn, 1) := by decide +kernel
theorem dX0_refusalOfTerm_0 : decode cX0_refusalOfTerm 0 = .ok (.aload_n 0, 1) := by decide +kernel
theorem dX0_refusalOfTerm_1 : decode cX0_refusalOfTerm 1 = .ok (.getfield 46, 3) := by decide +kernel
theorem dX0_refusalOfTerm_4 : decode cX0_refusalOfTerm 4 = .ok (.ifCond .eq 5, 3) := by decide +kernel
theorem dX0_refusalOfTerm_7 : decode cX0_refusalOfTerm 7 = .ok (.iconst 1, 1) := by decide +kernel
theorem dX0_refusalOfTerm_8 : decode cX0_refusalOfTerm 8 = .ok (.ireturn, 1) := by decide +kernel
theorem dX0_refusalOfTerm_9 : decode cX0_refusalOfTerm 9 = .ok (.aload_n 0, 1) := by decide +kernel
theorem dX0_refusalOfTerm_10 : decode cX0_refusalOfTerm 10 = .ok (.iload_n 2, 1) := by decide +kernel
theorem dX0_refusalOfTerm_11 : decode cX0_refusalOfTerm 11 = .ok (.invokevirtual 66, 3) := by decide +kernel
theorem dX0_refusalOfTerm_14 : decode cX0_refusalOfTerm 14 = .ok (.ifCond .eq 6, 3) := by decide +kernel
theorem dX0_refusalOfTerm_17 : decode cX0_refusalOfTerm 17 = .ok (.bipush 6, 2) := by decide +kernel
theorem dX0_refusalOfTerm_19 : decode cX0_refusalOfTerm 19 = .ok (.ireturn, 1) := by decide +kernel
theorem dX0_refusalOfTerm_20 : decode cX0_refusalOfTerm 20 = .ok (.aload_n 0, 1) := by decide +kernel
theorem dX0_refusalOfTerm_21 : decode cX0_refusalOfTerm 21 = .ok (.iload_n 2, 1) := by decide +kernel
theorem dX0_refusalOfTerm_22 : decode cX0_refusalOfTerm 22 = .ok (.invokevirtual 70, 3) := by decide +kernel
theorem dX0_refusalOfTerm_25 : decode cX0_refusalOfTerm 25 = .ok (.iload_n 1, 1) := by decide +kernel
theorem dX0_refusalOfTerm_26 : decode cX0_refusalOfTerm 26 = .ok (.iadd, 1) := by decide +kernel
theorem dX0_refusalOfTerm_27 : decode cX0_refusalOfTerm 27 = .ok (.istore_n 3, 1) := by decide +kernel
theorem dX0_refusalOfTerm_28 : decode cX0_refusalOfTerm 28 = .ok (.iload_n 3, 1) := by decide +kernel
theorem dX0_refusalOfTerm_29 : decode cX0_refusalOfTerm 29 = .ok (.bipush (-30), 2) := by decide +kernel
theorem dX0_refusalOfTerm_31 : decode cX0_refusalOfTerm 31 = .ok (.if_icmp .lt 9, 3) := by decide +kernel
theorem dX0_refusalOfTerm_34 : decode cX0_refusalOfTerm 34 = .ok (.iload_n 3, 1) := by decide +kernel
theorem dX0_refusalOfTerm_35 : decode cX0_refusalOfTerm 35 = .ok (.bipush 30, 2) := by decide +kernel
theorem dX0_refusalOfTerm_37 : decode cX0_refusalOfTerm 37 = .ok (.if_icmp .le 6, 3) := by decide +kernel
theorem dX0_refusalOfTerm_40 : decode cX0_refusalOfTerm 40 = .ok (.bipush 7, 2) := by decide +kernel
theorem dX0_refusalOfTerm_42 : decode cX0_refusalOfTerm 42 = .ok (.ireturn, 1) := by decide +kernel
theorem dX0_refusalOfTerm_43 : decode cX0_refusalOfTerm 43 = .ok (.iload_n 3, 1) := by decide +kernel
theorem dX0_refusalOfTerm_44 : decode cX0_refusalOfTerm 44 = .ok (.ifCond .ne 16, 3) := by decide +kernel
theorem dX0_refusalOfTerm_47 : decode cX0_refusalOfTerm 47 = .ok (.aload_n 0, 1) := by decide +kernel
theorem dX0_refusalOfTerm_48 : decode cX0_refusalOfTerm 48 = .ok (.iload_n 2, 1) := by decide +kernel
theorem dX0_refusalOfTerm_49 : decode cX0_refusalOfTerm 49 = .ok (.invokevirtual 73, 3) := by decide +kernel
theorem dX0_refusalOfTerm_52 : decode cX0_refusalOfTerm 52 = .ok (.ifCond .eq 8, 3) := by decide +kernel
theorem dX0_refusalOfTerm_55 : decode cX0_refusalOfTerm 55 = .ok (.bipush 8, 2) := by decide +kernel
theorem dX0_refusalOfTerm_57 : decode cX0_refusalOfTerm 57 = .ok (.goto 4, 3) := by decide +kernel
theorem dX0_refusalOfTerm_60 : decode cX0_refusalOfTerm 60 = .ok (.iconst 0, 1) := by decide +kernel
theorem dX0_refusalOfTerm_61 : decode cX0_refusalOfTerm 61 = .ok (.ireturn, 1) := by decide +kernel
theorem dX0_coefficientOf_0 : decode cX0_coefficientOf 0 = .ok (.iload_n 1, 1) := by decide +kernel
theorem dX0_coefficientOf_1 : decode cX0_coefficientOf 1 = .ok (.ifCond .lt 17, 3) := by decide +kernel
theorem dX0_coefficientOf_4 : decode cX0_coefficientOf 4 = .ok (.iload_n 1, 1) := by decide +kernel
theorem dX0_coefficientOf_5 : decode cX0_coefficientOf 5 = .ok (.iconst 5, 1) := by decide +kernel
theorem dX0_coefficientOf_6 : decode cX0_coefficientOf 6 = .ok (.if_icmp .ge 12, 3) := by decide +kernel
theorem dX0_coefficientOf_9 : decode cX0_coefficientOf 9 = .ok (.aload_n 0, 1) := by decide +kernel
theorem dX0_coefficientOf_10 : decode cX0_coefficientOf 10 = .ok (.getfield 15, 3) := by decide +kernel
theorem dX0_coefficientOf_13 : decode cX0_coefficientOf 13 = .ok (.iload_n 1, 1) := by decide +kernel
theorem dX0_coefficientOf_14 : decode cX0_coefficientOf 14 = .ok (.iaload, 1) := by decide +kernel
theorem dX0_coefficientOf_15 : decode cX0_coefficientOf 15 = .ok (.goto 4, 3) := by decide +kernel
theorem dX0_coefficientOf_18 : decode cX0_coefficientOf 18 = .ok (.iconst 0, 1) := by decide +kernel
theorem dX0_coefficientOf_19 : decode cX0_coefficientOf 19 = .ok (.ireturn, 1) := by decide +kernel
theorem dX0_isZeroBut_0 : decode cX0_isZeroBut 0 = .ok (.iconst 0, 1) := by decide +kernel
theorem dX0_isZeroBut_1 : decode cX0_isZeroBut 1 = .ok (.istore_n 2, 1) := by decide +kernel
theorem dX0_isZeroBut_2 : decode cX0_isZeroBut 2 = .ok (.iload_n 2, 1) := by decide +kernel
theorem dX0_isZeroBut_3 : decode cX0_isZeroBut 3 = .ok (.iconst 5, 1) := by decide +kernel
theorem dX0_isZeroBut_4 : decode cX0_isZeroBut 4 = .ok (.if_icmp .ge 25, 3) := by decide +kernel
theorem dX0_isZeroBut_7 : decode cX0_isZeroBut 7 = .ok (.iload_n 2, 1) := by decide +kernel
theorem dX0_isZeroBut_8 : decode cX0_isZeroBut 8 = .ok (.iload_n 1, 1) := by decide +kernel
theorem dX0_isZeroBut_9 : decode cX0_isZeroBut 9 = .ok (.if_icmp .eq 14, 3) := by decide +kernel
theorem dX0_isZeroBut_12 : decode cX0_isZeroBut 12 = .ok (.aload_n 0, 1) := by decide +kernel
theorem dX0_isZeroBut_13 : decode cX0_isZeroBut 13 = .ok (.getfield 15, 3) := by decide +kernel
theorem dX0_isZeroBut_16 : decode cX0_isZeroBut 16 = .ok (.iload_n 2, 1) := by decide +kernel
theorem dX0_isZeroBut_17 : decode cX0_isZeroBut 17 = .ok (.iaload, 1) := by decide +kernel
theorem dX0_isZeroBut_18 : decode cX0_isZeroBut 18 = .ok (.ifCond .eq 5, 3) := by decide +kernel
theorem dX0_isZeroBut_21 : decode cX0_isZeroBut 21 = .ok (.iconst 0, 1) := by decide +kernel
theorem dX0_isZeroBut_22 : decode cX0_isZeroBut 22 = .ok (.ireturn, 1) := by decide +kernel
theorem dX0_isZeroBut_23 : decode cX0_isZeroBut 23 = .ok (.iinc 2 1, 3) := by decide +kernel
theorem dX0_isZeroBut_26 : decode cX0_isZeroBut 26 = .ok (.goto (-24), 3) := by decide +kernel
theorem dX0_isZeroBut_29 : decode cX0_isZeroBut 29 = .ok (.iconst 1, 1) := by decide +kernel
theorem dX0_isZeroBut_30 : decode cX0_isZeroBut 30 = .ok (.ireturn, 1) := by decide +kernel
theorem dX0_endTurn_0 : decode cX0_endTurn 0 = .ok (.iload_n 2, 1) := by decide +kernel
theorem dX0_endTurn_1 : decode cX0_endTurn 1 = .ok (.ifCond .lt 24, 3) := by decide +kernel
theorem dX0_endTurn_4 : decode cX0_endTurn 4 = .ok (.iload_n 2, 1) := by decide +kernel
theorem dX0_endTurn_5 : decode cX0_endTurn 5 = .ok (.iconst 5, 1) := by decide +kernel
theorem dX0_endTurn_6 : decode cX0_endTurn 6 = .ok (.if_icmp .ge 19, 3) := by decide +kernel
theorem dX0_endTurn_9 : decode cX0_endTurn 9 = .ok (.aload_n 0, 1) := by decide +kernel
theorem dX0_endTurn_10 : decode cX0_endTurn 10 = .ok (.getfield 42, 3) := by decide +kernel
theorem dX0_endTurn_13 : decode cX0_endTurn 13 = .ok (.ifCond .lt 12, 3) := by decide +kernel
theorem dX0_endTurn_16 : decode cX0_endTurn 16 = .ok (.aload_n 0, 1) := by decide +kernel
theorem dX0_endTurn_17 : decode cX0_endTurn 17 = .ok (.getfield 42, 3) := by decide +kernel
theorem dX0_endTurn_20 : decode cX0_endTurn 20 = .ok (.bipush 60, 2) := by decide +kernel
theorem dX0_endTurn_22 : decode cX0_endTurn 22 = .ok (.if_icmp .lt 4, 3) := by decide +kernel
theorem dX0_endTurn_25 : decode cX0_endTurn 25 = .ok (.return_, 1) := by decide +kernel
theorem dX0_endTurn_26 : decode cX0_endTurn 26 = .ok (.aload_n 0, 1) := by decide +kernel
theorem dX0_endTurn_27 : decode cX0_endTurn 27 = .ok (.invokevirtual 76, 3) := by decide +kernel
theorem dX0_endTurn_30 : decode cX0_endTurn 30 = .ok (.istore 4, 2) := by decide +kernel
theorem dX0_endTurn_32 : decode cX0_endTurn 32 = .ok (.aload_n 0, 1) := by decide +kernel
theorem dX0_endTurn_33 : decode cX0_endTurn 33 = .ok (.getfield 18, 3) := by decide +kernel
theorem dX0_endTurn_36 : decode cX0_endTurn 36 = .ok (.aload_n 0, 1) := by decide +kernel
theorem dX0_endTurn_37 : decode cX0_endTurn 37 = .ok (.getfield 42, 3) := by decide +kernel
theorem dX0_endTurn_40 : decode cX0_endTurn 40 = .ok (.iload_n 1, 1) := by decide +kernel
theorem dX0_endTurn_41 : decode cX0_endTurn 41 = .ok (.iastore, 1) := by decide +kernel
theorem dX0_endTurn_42 : decode cX0_endTurn 42 = .ok (.aload_n 0, 1) := by decide +kernel
theorem dX0_endTurn_43 : decode cX0_endTurn 43 = .ok (.getfield 21, 3) := by decide +kernel
theorem dX0_endTurn_46 : decode cX0_endTurn 46 = .ok (.aload_n 0, 1) := by decide +kernel
theorem dX0_endTurn_47 : decode cX0_endTurn 47 = .ok (.getfield 42, 3) := by decide +kernel
theorem dX0_endTurn_50 : decode cX0_endTurn 50 = .ok (.iload_n 2, 1) := by decide +kernel
theorem dX0_endTurn_51 : decode cX0_endTurn 51 = .ok (.iastore, 1) := by decide +kernel
theorem dX0_endTurn_52 : decode cX0_endTurn 52 = .ok (.aload_n 0, 1) := by decide +kernel
theorem dX0_endTurn_53 : decode cX0_endTurn 53 = .ok (.getfield 15, 3) := by decide +kernel
theorem dX0_endTurn_56 : decode cX0_endTurn 56 = .ok (.iload_n 2, 1) := by decide +kernel
theorem dX0_endTurn_57 : decode cX0_endTurn 57 = .ok (.dup2, 1) := by decide +kernel
theorem dX0_endTurn_58 : decode cX0_endTurn 58 = .ok (.iaload, 1) := by decide +kernel
theorem dX0_endTurn_59 : decode cX0_endTurn 59 = .ok (.iload_n 1, 1) := by decide +kernel
theorem dX0_endTurn_60 : decode cX0_endTurn 60 = .ok (.iadd, 1) := by decide +kernel
theorem dX0_endTurn_61 : decode cX0_endTurn 61 = .ok (.iastore, 1) := by decide +kernel
theorem dX0_endTurn_62 : decode cX0_endTurn 62 = .ok (.aload_n 0, 1) := by decide +kernel
theorem dX0_endTurn_63 : decode cX0_endTurn 63 = .ok (.dup, 1) := by decide +kernel
theorem dX0_endTurn_64 : decode cX0_endTurn 64 = .ok (.getfield 42, 3) := by decide +kernel
theorem dX0_endTurn_67 : decode cX0_endTurn 67 = .ok (.iconst 1, 1) := by decide +kernel
theorem dX0_endTurn_68 : decode cX0_endTurn 68 = .ok (.iadd, 1) := by decide +kernel
theorem dX0_endTurn_69 : decode cX0_endTurn 69 = .ok (.putfield 42, 3) := by decide +kernel
theorem dX0_endTurn_72 : decode cX0_endTurn 72 = .ok (.iconst 0, 1) := by decide +kernel
theorem dX0_endTurn_73 : decode cX0_endTurn 73 = .ok (.istore 5, 2) := by decide +kernel
theorem dX0_endTurn_75 : decode cX0_endTurn 75 = .ok (.iload_n 1, 1) := by decide +kernel
theorem dX0_endTurn_76 : decode cX0_endTurn 76 = .ok (.ifCond .eq 31, 3) := by decide +kernel
theorem dX0_endTurn_79 : decode cX0_endTurn 79 = .ok (.aload_n 0, 1) := by decide +kernel
theorem dX0_endTurn_80 : decode cX0_endTurn 80 = .ok (.getfield 9, 3) := by decide +kernel
theorem dX0_endTurn_83 : decode cX0_endTurn 83 = .ok (.iconst 4, 1) := by decide +kernel
theorem dX0_endTurn_84 : decode cX0_endTurn 84 = .ok (.iaload, 1) := by decide +kernel
theorem dX0_endTurn_85 : decode cX0_endTurn 85 = .ok (.ifCond .le 22, 3) := by decide +kernel
theorem dX0_endTurn_88 : decode cX0_endTurn 88 = .ok (.aload_n 3, 1) := by decide +kernel
theorem dX0_endTurn_89 : decode cX0_endTurn 89 = .ok (.aload_n 0, 1) := by decide +kernel
theorem dX0_endTurn_90 : decode cX0_endTurn 90 = .ok (.getfield 15, 3) := by decide +kernel
theorem dX0_endTurn_93 : decode cX0_endTurn 93 = .ok (.invokevirtual 80, 3) := by decide +kernel
theorem dX0_endTurn_96 : decode cX0_endTurn 96 = .ok (.aload_n 3, 1) := by decide +kernel
theorem dX0_endTurn_97 : decode cX0_endTurn 97 = .ok (.invokevirtual 86, 3) := by decide +kernel
theorem dX0_endTurn_100 : decode cX0_endTurn 100 = .ok (.aload_n 0, 1) := by decide +kernel
theorem dX0_endTurn_101 : decode cX0_endTurn 101 = .ok (.aload_n 3, 1) := by decide +kernel
theorem dX0_endTurn_102 : decode cX0_endTurn 102 = .ok (.invokevirtual 89, 3) := by decide +kernel
theorem dX0_endTurn_105 : decode cX0_endTurn 105 = .ok (.istore 5, 2) := by decide +kernel
theorem dX0_endTurn_107 : decode cX0_endTurn 107 = .ok (.iload 5, 2) := by decide +kernel
theorem dX0_endTurn_109 : decode cX0_endTurn 109 = .ok (.ifCond .eq 9, 3) := by decide +kernel
theorem dX0_endTurn_112 : decode cX0_endTurn 112 = .ok (.aload_n 0, 1) := by decide +kernel
theorem dX0_endTurn_113 : decode cX0_endTurn 113 = .ok (.iload 4, 2) := by decide +kernel
theorem dX0_endTurn_115 : decode cX0_endTurn 115 = .ok (.putfield 50, 3) := by decide +kernel
theorem dX0_endTurn_118 : decode cX0_endTurn 118 = .ok (.aload_n 0, 1) := by decide +kernel
theorem dX0_endTurn_119 : decode cX0_endTurn 119 = .ok (.iload 5, 2) := by decide +kernel
theorem dX0_endTurn_121 : decode cX0_endTurn 121 = .ok (.ifCond .ne 36, 3) := by decide +kernel
theorem dX0_endTurn_124 : decode cX0_endTurn 124 = .ok (.aload_n 0, 1) := by decide +kernel
theorem dX0_endTurn_125 : decode cX0_endTurn 125 = .ok (.getfield 42, 3) := by decide +kernel
theorem dX0_endTurn_128 : decode cX0_endTurn 128 = .ok (.aload_n 0, 1) := by decide +kernel
theorem dX0_endTurn_129 : decode cX0_endTurn 129 = .ok (.getfield 9, 3) := by decide +kernel
theorem dX0_endTurn_132 : decode cX0_endTurn 132 = .ok (.iconst 2, 1) := by decide +kernel
theorem dX0_endTurn_133 : decode cX0_endTurn 133 = .ok (.iaload, 1) := by decide +kernel
theorem dX0_endTurn_134 : decode cX0_endTurn 134 = .ok (.if_icmp .ge 23, 3) := by decide +kernel
theorem dX0_endTurn_137 : decode cX0_endTurn 137 = .ok (.aload_n 0, 1) := by decide +kernel
theorem dX0_endTurn_138 : decode cX0_endTurn 138 = .ok (.invokevirtual 93, 3) := by decide +kernel
theorem dX0_endTurn_141 : decode cX0_endTurn 141 = .ok (.ifCond .ne 16, 3) := by decide +kernel
theorem dX0_endTurn_144 : decode cX0_endTurn 144 = .ok (.aload_n 0, 1) := by decide +kernel
theorem dX0_endTurn_145 : decode cX0_endTurn 145 = .ok (.invokevirtual 97, 3) := by decide +kernel
theorem dX0_endTurn_148 : decode cX0_endTurn 148 = .ok (.aload_n 0, 1) := by decide +kernel
theorem dX0_endTurn_149 : decode cX0_endTurn 149 = .ok (.getfield 9, 3) := by decide +kernel
theorem dX0_endTurn_152 : decode cX0_endTurn 152 = .ok (.iconst 0, 1) := by decide +kernel
theorem dX0_endTurn_153 : decode cX0_endTurn 153 = .ok (.iaload, 1) := by decide +kernel
theorem dX0_endTurn_154 : decode cX0_endTurn 154 = .ok (.if_icmp .ne 7, 3) := by decide +kernel
theorem dX0_endTurn_157 : decode cX0_endTurn 157 = .ok (.iconst 1, 1) := by decide +kernel
theorem dX0_endTurn_158 : decode cX0_endTurn 158 = .ok (.goto 4, 3) := by decide +kernel
theorem dX0_endTurn_161 : decode cX0_endTurn 161 = .ok (.iconst 0, 1) := by decide +kernel
theorem dX0_endTurn_162 : decode cX0_endTurn 162 = .ok (.putfield 46, 3) := by decide +kernel
theorem dX0_endTurn_165 : decode cX0_endTurn 165 = .ok (.return_, 1) := by decide +kernel
theorem dX0_isGoalReached_0 : decode cX0_isGoalReached 0 = .ok (.aload_n 0, 1) := by decide +kernel
theorem dX0_isGoalReached_1 : decode cX0_isGoalReached 1 = .ok (.getfield 9, 3) := by decide +kernel
theorem dX0_isGoalReached_4 : decode cX0_isGoalReached 4 = .ok (.iconst 4, 1) := by decide +kernel
theorem dX0_isGoalReached_5 : decode cX0_isGoalReached 5 = .ok (.iaload, 1) := by decide +kernel
theorem dX0_isGoalReached_6 : decode cX0_isGoalReached 6 = .ok (.ifCond .le 20, 3) := by decide +kernel
theorem dX0_isGoalReached_9 : decode cX0_isGoalReached 9 = .ok (.aload_n 1, 1) := by decide +kernel
theorem dX0_isGoalReached_10 : decode cX0_isGoalReached 10 = .ok (.invokevirtual 100, 3) := by decide +kernel
theorem dX0_isGoalReached_13 : decode cX0_isGoalReached 13 = .ok (.aload_n 0, 1) := by decide +kernel
theorem dX0_isGoalReached_14 : decode cX0_isGoalReached 14 = .ok (.getfield 9, 3) := by decide +kernel
theorem dX0_isGoalReached_17 : decode cX0_isGoalReached 17 = .ok (.iconst 4, 1) := by decide +kernel
theorem dX0_isGoalReached_18 : decode cX0_isGoalReached 18 = .ok (.iaload, 1) := by decide +kernel
theorem dX0_isGoalReached_19 : decode cX0_isGoalReached 19 = .ok (.if_icmp .lt 7, 3) := by decide +kernel
theorem dX0_isGoalReached_22 : decode cX0_isGoalReached 22 = .ok (.iconst 1, 1) := by decide +kernel
theorem dX0_isGoalReached_23 : decode cX0_isGoalReached 23 = .ok (.goto 4, 3) := by decide +kernel
theorem dX0_isGoalReached_26 : decode cX0_isGoalReached 26 = .ok (.iconst 0, 1) := by decide +kernel
theorem dX0_isGoalReached_27 : decode cX0_isGoalReached 27 = .ok (.ireturn, 1) := by decide +kernel
theorem dX0_endsWithTwoPasses_0 : decode cX0_endsWithTwoPasses 0 = .ok (.aload_n 0, 1) := by decide +kernel
theorem dX0_endsWithTwoPasses_1 : decode cX0_endsWithTwoPasses 1 = .ok (.getfield 42, 3) := by decide +kernel
theorem dX0_endsWithTwoPasses_4 : decode cX0_endsWithTwoPasses 4 = .ok (.iconst 2, 1) := by decide +kernel
theorem dX0_endsWithTwoPasses_5 : decode cX0_endsWithTwoPasses 5 = .ok (.if_icmp .lt 44, 3) := by decide +kernel
theorem dX0_endsWithTwoPasses_8 : decode cX0_endsWithTwoPasses 8 = .ok (.aload_n 0, 1) := by decide +kernel
theorem dX0_endsWithTwoPasses_9 : decode cX0_endsWithTwoPasses 9 = .ok (.getfield 42, 3) := by decide +kernel
theorem dX0_endsWithTwoPasses_12 : decode cX0_endsWithTwoPasses 12 = .ok (.bipush 60, 2) := by decide +kernel
theorem dX0_endsWithTwoPasses_14 : decode cX0_endsWithTwoPasses 14 = .ok (.if_icmp .gt 35, 3) := by decide +kernel
theorem dX0_endsWithTwoPasses_17 : decode cX0_endsWithTwoPasses 17 = .ok (.aload_n 0, 1) := by decide +kernel
theorem dX0_endsWithTwoPasses_18 : decode cX0_endsWithTwoPasses 18 = .ok (.getfield 18, 3) := by decide +kernel
theorem dX0_endsWithTwoPasses_21 : decode cX0_endsWithTwoPasses 21 = .ok (.aload_n 0, 1) := by decide +kernel
theorem dX0_endsWithTwoPasses_22 : decode cX0_endsWithTwoPasses 22 = .ok (.getfield 42, 3) := by decide +kernel
theorem dX0_endsWithTwoPasses_25 : decode cX0_endsWithTwoPasses 25 = .ok (.iconst 1, 1) := by decide +kernel
theorem dX0_endsWithTwoPasses_26 : decode cX0_endsWithTwoPasses 26 = .ok (.isub, 1) := by decide +kernel
theorem dX0_endsWithTwoPasses_27 : decode cX0_endsWithTwoPasses 27 = .ok (.iaload, 1) := by decide +kernel
theorem dX0_endsWithTwoPasses_28 : decode cX0_endsWithTwoPasses 28 = .ok (.ifCond .ne 21, 3) := by decide +kernel
theorem dX0_endsWithTwoPasses_31 : decode cX0_endsWithTwoPasses 31 = .ok (.aload_n 0, 1) := by decide +kernel
theorem dX0_endsWithTwoPasses_32 : decode cX0_endsWithTwoPasses 32 = .ok (.getfield 18, 3) := by decide +kernel
theorem dX0_endsWithTwoPasses_35 : decode cX0_endsWithTwoPasses 35 = .ok (.aload_n 0, 1) := by decide +kernel
theorem dX0_endsWithTwoPasses_36 : decode cX0_endsWithTwoPasses 36 = .ok (.getfield 42, 3) := by decide +kernel
theorem dX0_endsWithTwoPasses_39 : decode cX0_endsWithTwoPasses 39 = .ok (.iconst 2, 1) := by decide +kernel
theorem dX0_endsWithTwoPasses_40 : decode cX0_endsWithTwoPasses 40 = .ok (.isub, 1) := by decide +kernel
theorem dX0_endsWithTwoPasses_41 : decode cX0_endsWithTwoPasses 41 = .ok (.iaload, 1) := by decide +kernel
theorem dX0_endsWithTwoPasses_42 : decode cX0_endsWithTwoPasses 42 = .ok (.ifCond .ne 7, 3) := by decide +kernel
theorem dX0_endsWithTwoPasses_45 : decode cX0_endsWithTwoPasses 45 = .ok (.iconst 1, 1) := by decide +kernel
theorem dX0_endsWithTwoPasses_46 : decode cX0_endsWithTwoPasses 46 = .ok (.goto 4, 3) := by decide +kernel
theorem dX0_endsWithTwoPasses_49 : decode cX0_endsWithTwoPasses 49 = .ok (.iconst 0, 1) := by decide +kernel
theorem dX0_endsWithTwoPasses_50 : decode cX0_endsWithTwoPasses 50 = .ok (.ireturn, 1) := by decide +kernel
theorem dX0_claimField_0 : decode cX0_claimField 0 = .ok (.iload_n 1, 1) := by decide +kernel
theorem dX0_claimField_1 : decode cX0_claimField 1 = .ok (.iconst 4, 1) := by decide +kernel
theorem dX0_claimField_2 : decode cX0_claimField 2 = .ok (.imul, 1) := by decide +kernel
theorem dX0_claimField_3 : decode cX0_claimField 3 = .ok (.iload_n 2, 1) := by decide +kernel
theorem dX0_claimField_4 : decode cX0_claimField 4 = .ok (.iadd, 1) := by decide +kernel
theorem dX0_claimField_5 : decode cX0_claimField 5 = .ok (.bipush 6, 2) := by decide +kernel
theorem dX0_claimField_7 : decode cX0_claimField 7 = .ok (.imul, 1) := by decide +kernel
theorem dX0_claimField_8 : decode cX0_claimField 8 = .ok (.iload_n 3, 1) := by decide +kernel
theorem dX0_claimField_9 : decode cX0_claimField 9 = .ok (.iadd, 1) := by decide +kernel
theorem dX0_claimField_10 : decode cX0_claimField 10 = .ok (.istore 4, 2) := by decide +kernel
theorem dX0_claimField_12 : decode cX0_claimField 12 = .ok (.iload 4, 2) := by decide +kernel
theorem dX0_claimField_14 : decode cX0_claimField 14 = .ok (.ifCond .lt 23, 3) := by decide +kernel
theorem dX0_claimField_17 : decode cX0_claimField 17 = .ok (.iload 4, 2) := by decide +kernel
theorem dX0_claimField_19 : decode cX0_claimField 19 = .ok (.aload_n 0, 1) := by decide +kernel
theorem dX0_claimField_20 : decode cX0_claimField 20 = .ok (.getfield 24, 3) := by decide +kernel
theorem dX0_claimField_23 : decode cX0_claimField 23 = .ok (.arraylength, 1) := by decide +kernel
theorem dX0_claimField_24 : decode cX0_claimField 24 = .ok (.if_icmp .ge 13, 3) := by decide +kernel
theorem dX0_claimField_27 : decode cX0_claimField 27 = .ok (.aload_n 0, 1) := by decide +kernel
theorem dX0_claimField_28 : decode cX0_claimField 28 = .ok (.getfield 24, 3) := by decide +kernel
theorem dX0_claimField_31 : decode cX0_claimField 31 = .ok (.iload 4, 2) := by decide +kernel
theorem dX0_claimField_33 : decode cX0_claimField 33 = .ok (.iaload, 1) := by decide +kernel
theorem dX0_claimField_34 : decode cX0_claimField 34 = .ok (.goto 4, 3) := by decide +kernel
theorem dX0_claimField_37 : decode cX0_claimField 37 = .ok (.iconst (-1), 1) := by decide +kernel
theorem dX0_claimField_38 : decode cX0_claimField 38 = .ok (.ireturn, 1) := by decide +kernel
theorem dX0_claimsOf_0 : decode cX0_claimsOf 0 = .ok (.iload_n 1, 1) := by decide +kernel
theorem dX0_claimsOf_1 : decode cX0_claimsOf 1 = .ok (.invokestatic 103, 3) := by decide +kernel
theorem dX0_claimsOf_4 : decode cX0_claimsOf 4 = .ok (.ifCond .eq 12, 3) := by decide +kernel
theorem dX0_claimsOf_7 : decode cX0_claimsOf 7 = .ok (.aload_n 0, 1) := by decide +kernel
theorem dX0_claimsOf_8 : decode cX0_claimsOf 8 = .ok (.getfield 27, 3) := by decide +kernel
theorem dX0_claimsOf_11 : decode cX0_claimsOf 11 = .ok (.iload_n 1, 1) := by decide +kernel
theorem dX0_claimsOf_12 : decode cX0_claimsOf 12 = .ok (.iaload, 1) := by decide +kernel
theorem dX0_claimsOf_13 : decode cX0_claimsOf 13 = .ok (.goto 4, 3) := by decide +kernel
theorem dX0_claimsOf_16 : decode cX0_claimsOf 16 = .ok (.iconst 0, 1) := by decide +kernel
theorem dX0_claimsOf_17 : decode cX0_claimsOf 17 = .ok (.ireturn, 1) := by decide +kernel
theorem dX0_hasClaimNow_0 : decode cX0_hasClaimNow 0 = .ok (.aload_n 0, 1) := by decide +kernel
theorem dX0_hasClaimNow_1 : decode cX0_hasClaimNow 1 = .ok (.invokevirtual 76, 3) := by decide +kernel
theorem dX0_hasClaimNow_4 : decode cX0_hasClaimNow 4 = .ok (.istore_n 1, 1) := by decide +kernel
theorem dX0_hasClaimNow_5 : decode cX0_hasClaimNow 5 = .ok (.aload_n 0, 1) := by decide +kernel
theorem dX0_hasClaimNow_6 : decode cX0_hasClaimNow 6 = .ok (.iload_n 1, 1) := by decide +kernel
theorem dX0_hasClaimNow_7 : decode cX0_hasClaimNow 7 = .ok (.invokevirtual 109, 3) := by decide +kernel
theorem dX0_hasClaimNow_10 : decode cX0_hasClaimNow 10 = .ok (.istore_n 2, 1) := by decide +kernel
theorem dX0_hasClaimNow_11 : decode cX0_hasClaimNow 11 = .ok (.iload_n 2, 1) := by decide +kernel
theorem dX0_hasClaimNow_12 : decode cX0_hasClaimNow 12 = .ok (.ifCond .le 23, 3) := by decide +kernel
theorem dX0_hasClaimNow_15 : decode cX0_hasClaimNow 15 = .ok (.aload_n 0, 1) := by decide +kernel
theorem dX0_hasClaimNow_16 : decode cX0_hasClaimNow 16 = .ok (.iload_n 1, 1) := by decide +kernel
theorem dX0_hasClaimNow_17 : decode cX0_hasClaimNow 17 = .ok (.iload_n 2, 1) := by decide +kernel
theorem dX0_hasClaimNow_18 : decode cX0_hasClaimNow 18 = .ok (.iconst 1, 1) := by decide +kernel
theorem dX0_hasClaimNow_19 : decode cX0_hasClaimNow 19 = .ok (.isub, 1) := by decide +kernel
theorem dX0_hasClaimNow_20 : decode cX0_hasClaimNow 20 = .ok (.iconst 5, 1) := by decide +kernel
theorem dX0_hasClaimNow_21 : decode cX0_hasClaimNow 21 = .ok (.invokevirtual 112, 3) := by decide +kernel
theorem dX0_hasClaimNow_24 : decode cX0_hasClaimNow 24 = .ok (.aload_n 0, 1) := by decide +kernel
theorem dX0_hasClaimNow_25 : decode cX0_hasClaimNow 25 = .ok (.getfield 42, 3) := by decide +kernel
theorem dX0_hasClaimNow_28 : decode cX0_hasClaimNow 28 = .ok (.if_icmp .ne 7, 3) := by decide +kernel
theorem dX0_hasClaimNow_31 : decode cX0_hasClaimNow 31 = .ok (.iconst 1, 1) := by decide +kernel
theorem dX0_hasClaimNow_32 : decode cX0_hasClaimNow 32 = .ok (.goto 4, 3) := by decide +kernel
theorem dX0_hasClaimNow_35 : decode cX0_hasClaimNow 35 = .ok (.iconst 0, 1) := by decide +kernel
theorem dX0_hasClaimNow_36 : decode cX0_hasClaimNow 36 = .ok (.ireturn, 1) := by decide +kernel
theorem dX0_stakes_0 : decode cX0_stakes 0 = .ok (.iconst 0, 1) := by decide +kernel
theorem dX0_stakes_1 : decode cX0_stakes 1 = .ok (.istore_n 2, 1) := by decide +kernel
theorem dX0_stakes_2 : decode cX0_stakes 2 = .ok (.iconst 0, 1) := by decide +kernel
theorem dX0_stakes_3 : decode cX0_stakes 3 = .ok (.istore_n 3, 1) := by decide +kernel
theorem dX0_stakes_4 : decode cX0_stakes 4 = .ok (.iload_n 3, 1) := by decide +kernel
theorem dX0_stakes_5 : decode cX0_stakes 5 = .ok (.aload_n 0, 1) := by decide +kernel
theorem dX0_stakes_6 : decode cX0_stakes 6 = .ok (.iload_n 1, 1) := by decide +kernel
theorem dX0_stakes_7 : decode cX0_stakes 7 = .ok (.invokevirtual 109, 3) := by decide +kernel
theorem dX0_stakes_10 : decode cX0_stakes 10 = .ok (.if_icmp .ge 19, 3) := by decide +kernel
theorem dX0_stakes_13 : decode cX0_stakes 13 = .ok (.iload_n 2, 1) := by decide +kernel
theorem dX0_stakes_14 : decode cX0_stakes 14 = .ok (.aload_n 0, 1) := by decide +kernel
theorem dX0_stakes_15 : decode cX0_stakes 15 = .ok (.iload_n 1, 1) := by decide +kernel
theorem dX0_stakes_16 : decode cX0_stakes 16 = .ok (.iload_n 3, 1) := by decide +kernel
theorem dX0_stakes_17 : decode cX0_stakes 17 = .ok (.iconst 4, 1) := by decide +kernel
theorem dX0_stakes_18 : decode cX0_stakes 18 = .ok (.invokevirtual 112, 3) := by decide +kernel
theorem dX0_stakes_21 : decode cX0_stakes 21 = .ok (.iadd, 1) := by decide +kernel
theorem dX0_stakes_22 : decode cX0_stakes 22 = .ok (.istore_n 2, 1) := by decide +kernel
theorem dX0_stakes_23 : decode cX0_stakes 23 = .ok (.iinc 3 1, 3) := by decide +kernel
theorem dX0_stakes_26 : decode cX0_stakes 26 = .ok (.goto (-22), 3) := by decide +kernel
theorem dX0_stakes_29 : decode cX0_stakes 29 = .ok (.iload_n 2, 1) := by decide +kernel
theorem dX0_stakes_30 : decode cX0_stakes 30 = .ok (.ireturn, 1) := by decide +kernel
theorem dX0_refusalOfClaim_0 : decode cX0_refusalOfClaim 0 = .ok (.aload_n 0, 1) := by decide +kernel
theorem dX0_refusalOfClaim_1 : decode cX0_refusalOfClaim 1 = .ok (.invokevirtual 76, 3) := by decide +kernel
theorem dX0_refusalOfClaim_4 : decode cX0_refusalOfClaim 4 = .ok (.istore 4, 2) := by decide +kernel
theorem dX0_refusalOfClaim_6 : decode cX0_refusalOfClaim 6 = .ok (.aload_n 0, 1) := by decide +kernel
theorem dX0_refusalOfClaim_7 : decode cX0_refusalOfClaim 7 = .ok (.getfield 46, 3) := by decide +kernel
theorem dX0_refusalOfClaim_10 : decode cX0_refusalOfClaim 10 = .ok (.ifCond .eq 5, 3) := by decide +kernel
theorem dX0_refusalOfClaim_13 : decode cX0_refusalOfClaim 13 = .ok (.iconst 1, 1) := by decide +kernel
theorem dX0_refusalOfClaim_14 : decode cX0_refusalOfClaim 14 = .ok (.ireturn, 1) := by decide +kernel
theorem dX0_refusalOfClaim_15 : decode cX0_refusalOfClaim 15 = .ok (.aload_n 0, 1) := by decide +kernel
theorem dX0_refusalOfClaim_16 : decode cX0_refusalOfClaim 16 = .ok (.invokevirtual 106, 3) := by decide +kernel
theorem dX0_refusalOfClaim_19 : decode cX0_refusalOfClaim 19 = .ok (.ifCond .eq 5, 3) := by decide +kernel
theorem dX0_refusalOfClaim_22 : decode cX0_refusalOfClaim 22 = .ok (.iconst 2, 1) := by decide +kernel
theorem dX0_refusalOfClaim_23 : decode cX0_refusalOfClaim 23 = .ok (.ireturn, 1) := by decide +kernel
theorem dX0_refusalOfClaim_24 : decode cX0_refusalOfClaim 24 = .ok (.aload_n 0, 1) := by decide +kernel
theorem dX0_refusalOfClaim_25 : decode cX0_refusalOfClaim 25 = .ok (.iload 4, 2) := by decide +kernel
theorem dX0_refusalOfClaim_27 : decode cX0_refusalOfClaim 27 = .ok (.invokevirtual 109, 3) := by decide +kernel
theorem dX0_refusalOfClaim_30 : decode cX0_refusalOfClaim 30 = .ok (.iconst 4, 1) := by decide +kernel
theorem dX0_refusalOfClaim_31 : decode cX0_refusalOfClaim 31 = .ok (.if_icmp .lt 5, 3) := by decide +kernel
theorem dX0_refusalOfClaim_34 : decode cX0_refusalOfClaim 34 = .ok (.iconst 3, 1) := by decide +kernel
theorem dX0_refusalOfClaim_35 : decode cX0_refusalOfClaim 35 = .ok (.ireturn, 1) := by decide +kernel
theorem dX0_refusalOfClaim_36 : decode cX0_refusalOfClaim 36 = .ok (.aload_n 0, 1) := by decide +kernel
theorem dX0_refusalOfClaim_37 : decode cX0_refusalOfClaim 37 = .ok (.iload 4, 2) := by decide +kernel
theorem dX0_refusalOfClaim_39 : decode cX0_refusalOfClaim 39 = .ok (.iload_n 1, 1) := by decide +kernel
theorem dX0_refusalOfClaim_40 : decode cX0_refusalOfClaim 40 = .ok (.iload_n 2, 1) := by decide +kernel
theorem dX0_refusalOfClaim_41 : decode cX0_refusalOfClaim 41 = .ok (.invokevirtual 116, 3) := by decide +kernel
theorem dX0_refusalOfClaim_44 : decode cX0_refusalOfClaim 44 = .ok (.ifCond .eq 5, 3) := by decide +kernel
theorem dX0_refusalOfClaim_47 : decode cX0_refusalOfClaim 47 = .ok (.iconst 4, 1) := by decide +kernel
theorem dX0_refusalOfClaim_48 : decode cX0_refusalOfClaim 48 = .ok (.ireturn, 1) := by decide +kernel
theorem dX0_refusalOfClaim_49 : decode cX0_refusalOfClaim 49 = .ok (.aload_n 0, 1) := by decide +kernel
theorem dX0_refusalOfClaim_50 : decode cX0_refusalOfClaim 50 = .ok (.iload 4, 2) := by decide +kernel
theorem dX0_refusalOfClaim_52 : decode cX0_refusalOfClaim 52 = .ok (.invokevirtual 120, 3) := by decide +kernel
theorem dX0_refusalOfClaim_55 : decode cX0_refusalOfClaim 55 = .ok (.iload_n 3, 1) := by decide +kernel
theorem dX0_refusalOfClaim_56 : decode cX0_refusalOfClaim 56 = .ok (.iadd, 1) := by decide +kernel
theorem dX0_refusalOfClaim_57 : decode cX0_refusalOfClaim 57 = .ok (.aload_n 0, 1) := by decide +kernel
theorem dX0_refusalOfClaim_58 : decode cX0_refusalOfClaim 58 = .ok (.getfield 9, 3) := by decide +kernel
theorem dX0_refusalOfClaim_61 : decode cX0_refusalOfClaim 61 = .ok (.bipush 6, 2) := by decide +kernel
theorem dX0_refusalOfClaim_63 : decode cX0_refusalOfClaim 63 = .ok (.iaload, 1) := by decide +kernel
theorem dX0_refusalOfClaim_64 : decode cX0_refusalOfClaim 64 = .ok (.if_icmp .le 7, 3) := by decide +kernel
theorem dX0_refusalOfClaim_67 : decode cX0_refusalOfClaim 67 = .ok (.iconst 5, 1) := by decide +kernel
theorem dX0_refusalOfClaim_68 : decode cX0_refusalOfClaim 68 = .ok (.goto 4, 3) := by decide +kernel
theorem dX0_refusalOfClaim_71 : decode cX0_refusalOfClaim 71 = .ok (.iconst 0, 1) := by decide +kernel
theorem dX0_refusalOfClaim_72 : decode cX0_refusalOfClaim 72 = .ok (.ireturn, 1) := by decide +kernel
theorem dX0_overlaps_0 : decode cX0_overlaps 0 = .ok (.iconst 0, 1) := by decide +kernel
theorem dX0_overlaps_1 : decode cX0_overlaps 1 = .ok (.istore 4, 2) := by decide +kernel
theorem dX0_overlaps_3 : decode cX0_overlaps 3 = .ok (.iload 4, 2) := by decide +kernel
theorem dX0_overlaps_5 : decode cX0_overlaps 5 = .ok (.aload_n 0, 1) := by decide +kernel
theorem dX0_overlaps_6 : decode cX0_overlaps 6 = .ok (.iload_n 1, 1) := by decide +kernel
theorem dX0_overlaps_7 : decode cX0_overlaps 7 = .ok (.invokevirtual 109, 3) := by decide +kernel
theorem dX0_overlaps_10 : decode cX0_overlaps 10 = .ok (.if_icmp .ge 46, 3) := by decide +kernel
theorem dX0_overlaps_13 : decode cX0_overlaps 13 = .ok (.iload_n 2, 1) := by decide +kernel
theorem dX0_overlaps_14 : decode cX0_overlaps 14 = .ok (.aload_n 0, 1) := by decide +kernel
theorem dX0_overlaps_15 : decode cX0_overlaps 15 = .ok (.iload_n 1, 1) := by decide +kernel
theorem dX0_overlaps_16 : decode cX0_overlaps 16 = .ok (.iload 4, 2) := by decide +kernel
theorem dX0_overlaps_18 : decode cX0_overlaps 18 = .ok (.iconst 0, 1) := by decide +kernel
theorem dX0_overlaps_19 : decode cX0_overlaps 19 = .ok (.invokevirtual 112, 3) := by decide +kernel
theorem dX0_overlaps_22 : decode cX0_overlaps 22 = .ok (.invokestatic 123, 3) := by decide +kernel
theorem dX0_overlaps_25 : decode cX0_overlaps 25 = .ok (.istore 5, 2) := by decide +kernel
theorem dX0_overlaps_27 : decode cX0_overlaps 27 = .ok (.iload_n 3, 1) := by decide +kernel
theorem dX0_overlaps_28 : decode cX0_overlaps 28 = .ok (.aload_n 0, 1) := by decide +kernel
theorem dX0_overlaps_29 : decode cX0_overlaps 29 = .ok (.iload_n 1, 1) := by decide +kernel
theorem dX0_overlaps_30 : decode cX0_overlaps 30 = .ok (.iload 4, 2) := by decide +kernel
theorem dX0_overlaps_32 : decode cX0_overlaps 32 = .ok (.iconst 1, 1) := by decide +kernel
theorem dX0_overlaps_33 : decode cX0_overlaps 33 = .ok (.invokevirtual 112, 3) := by decide +kernel
theorem dX0_overlaps_36 : decode cX0_overlaps 36 = .ok (.invokestatic 53, 3) := by decide +kernel
theorem dX0_overlaps_39 : decode cX0_overlaps 39 = .ok (.istore 6, 2) := by decide +kernel
theorem dX0_overlaps_41 : decode cX0_overlaps 41 = .ok (.iload 5, 2) := by decide +kernel
theorem dX0_overlaps_43 : decode cX0_overlaps 43 = .ok (.iload 6, 2) := by decide +kernel
theorem dX0_overlaps_45 : decode cX0_overlaps 45 = .ok (.if_icmp .ge 5, 3) := by decide +kernel
theorem dX0_overlaps_48 : decode cX0_overlaps 48 = .ok (.iconst 1, 1) := by decide +kernel
theorem dX0_overlaps_49 : decode cX0_overlaps 49 = .ok (.ireturn, 1) := by decide +kernel
theorem dX0_overlaps_50 : decode cX0_overlaps 50 = .ok (.iinc 4 1, 3) := by decide +kernel
theorem dX0_overlaps_53 : decode cX0_overlaps 53 = .ok (.goto (-50), 3) := by decide +kernel
theorem dX0_overlaps_56 : decode cX0_overlaps 56 = .ok (.iconst 0, 1) := by decide +kernel
theorem dX0_overlaps_57 : decode cX0_overlaps 57 = .ok (.ireturn, 1) := by decide +kernel
theorem dX0_addClaim_0 : decode cX0_addClaim 0 = .ok (.aload_n 0, 1) := by decide +kernel
theorem dX0_addClaim_1 : decode cX0_addClaim 1 = .ok (.invokevirtual 76, 3) := by decide +kernel
theorem dX0_addClaim_4 : decode cX0_addClaim 4 = .ok (.istore 6, 2) := by decide +kernel
theorem dX0_addClaim_6 : decode cX0_addClaim 6 = .ok (.iload 6, 2) := by decide +kernel
theorem dX0_addClaim_8 : decode cX0_addClaim 8 = .ok (.iconst 4, 1) := by decide +kernel
theorem dX0_addClaim_9 : decode cX0_addClaim 9 = .ok (.imul, 1) := by decide +kernel
theorem dX0_addClaim_10 : decode cX0_addClaim 10 = .ok (.aload_n 0, 1) := by decide +kernel
theorem dX0_addClaim_11 : decode cX0_addClaim 11 = .ok (.iload 6, 2) := by decide +kernel
theorem dX0_addClaim_13 : decode cX0_addClaim 13 = .ok (.invokevirtual 109, 3) := by decide +kernel
theorem dX0_addClaim_16 : decode cX0_addClaim 16 = .ok (.iadd, 1) := by decide +kernel
theorem dX0_addClaim_17 : decode cX0_addClaim 17 = .ok (.bipush 6, 2) := by decide +kernel
theorem dX0_addClaim_19 : decode cX0_addClaim 19 = .ok (.imul, 1) := by decide +kernel
theorem dX0_addClaim_20 : decode cX0_addClaim 20 = .ok (.istore 7, 2) := by decide +kernel
theorem dX0_addClaim_22 : decode cX0_addClaim 22 = .ok (.iload 6, 2) := by decide +kernel
theorem dX0_addClaim_24 : decode cX0_addClaim 24 = .ok (.invokestatic 103, 3) := by decide +kernel
theorem dX0_addClaim_27 : decode cX0_addClaim 27 = .ok (.ifCond .eq 21, 3) := by decide +kernel
theorem dX0_addClaim_30 : decode cX0_addClaim 30 = .ok (.iload 7, 2) := by decide +kernel
theorem dX0_addClaim_32 : decode cX0_addClaim 32 = .ok (.ifCond .lt 16, 3) := by decide +kernel
theorem dX0_addClaim_35 : decode cX0_addClaim 35 = .ok (.iload 7, 2) := by decide +kernel
theorem dX0_addClaim_37 : decode cX0_addClaim 37 = .ok (.bipush 6, 2) := by decide +kernel
theorem dX0_addClaim_39 : decode cX0_addClaim 39 = .ok (.iadd, 1) := by decide +kernel
theorem dX0_addClaim_40 : decode cX0_addClaim 40 = .ok (.aload_n 0, 1) := by decide +kernel
theorem dX0_addClaim_41 : decode cX0_addClaim 41 = .ok (.getfield 24, 3) := by decide +kernel
theorem dX0_addClaim_44 : decode cX0_addClaim 44 = .ok (.arraylength, 1) := by decide +kernel
theorem dX0_addClaim_45 : decode cX0_addClaim 45 = .ok (.if_icmp .le 4, 3) := by decide +kernel
theorem dX0_addClaim_48 : decode cX0_addClaim 48 = .ok (.return_, 1) := by decide +kernel
theorem dX0_addClaim_49 : decode cX0_addClaim 49 = .ok (.aload_n 0, 1) := by decide +kernel
theorem dX0_addClaim_50 : decode cX0_addClaim 50 = .ok (.getfield 24, 3) := by decide +kernel
theorem dX0_addClaim_53 : decode cX0_addClaim 53 = .ok (.iload 7, 2) := by decide +kernel
theorem dX0_addClaim_55 : decode cX0_addClaim 55 = .ok (.iconst 0, 1) := by decide +kernel
theorem dX0_addClaim_56 : decode cX0_addClaim 56 = .ok (.iadd, 1) := by decide +kernel
theorem dX0_addClaim_57 : decode cX0_addClaim 57 = .ok (.iload_n 1, 1) := by decide +kernel
theorem dX0_addClaim_58 : decode cX0_addClaim 58 = .ok (.iastore, 1) := by decide +kernel
theorem dX0_addClaim_59 : decode cX0_addClaim 59 = .ok (.aload_n 0, 1) := by decide +kernel
theorem dX0_addClaim_60 : decode cX0_addClaim 60 = .ok (.getfield 24, 3) := by decide +kernel
theorem dX0_addClaim_63 : decode cX0_addClaim 63 = .ok (.iload 7, 2) := by decide +kernel
theorem dX0_addClaim_65 : decode cX0_addClaim 65 = .ok (.iconst 1, 1) := by decide +kernel
theorem dX0_addClaim_66 : decode cX0_addClaim 66 = .ok (.iadd, 1) := by decide +kernel
theorem dX0_addClaim_67 : decode cX0_addClaim 67 = .ok (.iload_n 2, 1) := by decide +kernel
theorem dX0_addClaim_68 : decode cX0_addClaim 68 = .ok (.iastore, 1) := by decide +kernel
theorem dX0_addClaim_69 : decode cX0_addClaim 69 = .ok (.aload_n 0, 1) := by decide +kernel
theorem dX0_addClaim_70 : decode cX0_addClaim 70 = .ok (.getfield 24, 3) := by decide +kernel
theorem dX0_addClaim_73 : decode cX0_addClaim 73 = .ok (.iload 7, 2) := by decide +kernel
theorem dX0_addClaim_75 : decode cX0_addClaim 75 = .ok (.iconst 2, 1) := by decide +kernel
theorem dX0_addClaim_76 : decode cX0_addClaim 76 = .ok (.iadd, 1) := by decide +kernel
theorem dX0_addClaim_77 : decode cX0_addClaim 77 = .ok (.iload_n 3, 1) := by decide +kernel
theorem dX0_addClaim_78 : decode cX0_addClaim 78 = .ok (.iastore, 1) := by decide +kernel
theorem dX0_addClaim_79 : decode cX0_addClaim 79 = .ok (.aload_n 0, 1) := by decide +kernel
theorem dX0_addClaim_80 : decode cX0_addClaim 80 = .ok (.getfield 24, 3) := by decide +kernel
theorem dX0_addClaim_83 : decode cX0_addClaim 83 = .ok (.iload 7, 2) := by decide +kernel
theorem dX0_addClaim_85 : decode cX0_addClaim 85 = .ok (.iconst 3, 1) := by decide +kernel
theorem dX0_addClaim_86 : decode cX0_addClaim 86 = .ok (.iadd, 1) := by decide +kernel
theorem dX0_addClaim_87 : decode cX0_addClaim 87 = .ok (.iload 4, 2) := by decide +kernel
theorem dX0_addClaim_89 : decode cX0_addClaim 89 = .ok (.iastore, 1) := by decide +kernel
theorem dX0_addClaim_90 : decode cX0_addClaim 90 = .ok (.aload_n 0, 1) := by decide +kernel
theorem dX0_addClaim_91 : decode cX0_addClaim 91 = .ok (.getfield 24, 3) := by decide +kernel
theorem dX0_addClaim_94 : decode cX0_addClaim 94 = .ok (.iload 7, 2) := by decide +kernel
theorem dX0_addClaim_96 : decode cX0_addClaim 96 = .ok (.iconst 4, 1) := by decide +kernel
theorem dX0_addClaim_97 : decode cX0_addClaim 97 = .ok (.iadd, 1) := by decide +kernel
theorem dX0_addClaim_98 : decode cX0_addClaim 98 = .ok (.iload 5, 2) := by decide +kernel
theorem dX0_addClaim_100 : decode cX0_addClaim 100 = .ok (.iastore, 1) := by decide +kernel
theorem dX0_addClaim_101 : decode cX0_addClaim 101 = .ok (.aload_n 0, 1) := by decide +kernel
theorem dX0_addClaim_102 : decode cX0_addClaim 102 = .ok (.getfield 24, 3) := by decide +kernel
theorem dX0_addClaim_105 : decode cX0_addClaim 105 = .ok (.iload 7, 2) := by decide +kernel
theorem dX0_addClaim_107 : decode cX0_addClaim 107 = .ok (.iconst 5, 1) := by decide +kernel
theorem dX0_addClaim_108 : decode cX0_addClaim 108 = .ok (.iadd, 1) := by decide +kernel
theorem dX0_addClaim_109 : decode cX0_addClaim 109 = .ok (.aload_n 0, 1) := by decide +kernel
theorem dX0_addClaim_110 : decode cX0_addClaim 110 = .ok (.getfield 42, 3) := by decide +kernel
theorem dX0_addClaim_113 : decode cX0_addClaim 113 = .ok (.iastore, 1) := by decide +kernel
theorem dX0_addClaim_114 : decode cX0_addClaim 114 = .ok (.aload_n 0, 1) := by decide +kernel
theorem dX0_addClaim_115 : decode cX0_addClaim 115 = .ok (.getfield 27, 3) := by decide +kernel
theorem dX0_addClaim_118 : decode cX0_addClaim 118 = .ok (.iload 6, 2) := by decide +kernel
theorem dX0_addClaim_120 : decode cX0_addClaim 120 = .ok (.dup2, 1) := by decide +kernel
theorem dX0_addClaim_121 : decode cX0_addClaim 121 = .ok (.iaload, 1) := by decide +kernel
theorem dX0_addClaim_122 : decode cX0_addClaim 122 = .ok (.iconst 1, 1) := by decide +kernel
theorem dX0_addClaim_123 : decode cX0_addClaim 123 = .ok (.iadd, 1) := by decide +kernel
theorem dX0_addClaim_124 : decode cX0_addClaim 124 = .ok (.iastore, 1) := by decide +kernel
theorem dX0_addClaim_125 : decode cX0_addClaim 125 = .ok (.return_, 1) := by decide +kernel
theorem dX0_isRight_0 : decode cX0_isRight 0 = .ok (.aload_n 3, 1) := by decide +kernel
theorem dX0_isRight_1 : decode cX0_isRight 1 = .ok (.getfield 126, 3) := by decide +kernel
theorem dX0_isRight_4 : decode cX0_isRight 4 = .ok (.ifCond .ne 5, 3) := by decide +kernel
theorem dX0_isRight_7 : decode cX0_isRight 7 = .ok (.iconst 0, 1) := by decide +kernel
theorem dX0_isRight_8 : decode cX0_isRight 8 = .ok (.ireturn, 1) := by decide +kernel
theorem dX0_isRight_9 : decode cX0_isRight 9 = .ok (.aload_n 0, 1) := by decide +kernel
theorem dX0_isRight_10 : decode cX0_isRight 10 = .ok (.iload_n 1, 1) := by decide +kernel
theorem dX0_isRight_11 : decode cX0_isRight 11 = .ok (.iload_n 2, 1) := by decide +kernel
theorem dX0_isRight_12 : decode cX0_isRight 12 = .ok (.iconst 2, 1) := by decide +kernel
theorem dX0_isRight_13 : decode cX0_isRight 13 = .ok (.invokevirtual 112, 3) := by decide +kernel
theorem dX0_isRight_16 : decode cX0_isRight 16 = .ok (.istore 4, 2) := by decide +kernel
theorem dX0_isRight_18 : decode cX0_isRight 18 = .ok (.aload_n 0, 1) := by decide +kernel
theorem dX0_isRight_19 : decode cX0_isRight 19 = .ok (.iload_n 1, 1) := by decide +kernel
theorem dX0_isRight_20 : decode cX0_isRight 20 = .ok (.iload_n 2, 1) := by decide +kernel
theorem dX0_isRight_21 : decode cX0_isRight 21 = .ok (.iconst 0, 1) := by decide +kernel
theorem dX0_isRight_22 : decode cX0_isRight 22 = .ok (.invokevirtual 112, 3) := by decide +kernel
theorem dX0_isRight_25 : decode cX0_isRight 25 = .ok (.istore 5, 2) := by decide +kernel
theorem dX0_isRight_27 : decode cX0_isRight 27 = .ok (.aload_n 0, 1) := by decide +kernel
theorem dX0_isRight_28 : decode cX0_isRight 28 = .ok (.iload_n 1, 1) := by decide +kernel
theorem dX0_isRight_29 : decode cX0_isRight 29 = .ok (.iload_n 2, 1) := by decide +kernel
theorem dX0_isRight_30 : decode cX0_isRight 30 = .ok (.iconst 1, 1) := by decide +kernel
theorem dX0_isRight_31 : decode cX0_isRight 31 = .ok (.invokevirtual 112, 3) := by decide +kernel
theorem dX0_isRight_34 : decode cX0_isRight 34 = .ok (.istore 6, 2) := by decide +kernel
theorem dX0_isRight_36 : decode cX0_isRight 36 = .ok (.aload_n 3, 1) := by decide +kernel
theorem dX0_isRight_37 : decode cX0_isRight 37 = .ok (.iload 5, 2) := by decide +kernel
theorem dX0_isRight_39 : decode cX0_isRight 39 = .ok (.iconst 0, 1) := by decide +kernel
theorem dX0_isRight_40 : decode cX0_isRight 40 = .ok (.invokevirtual 129, 3) := by decide +kernel
theorem dX0_isRight_43 : decode cX0_isRight 43 = .ok (.aload_n 3, 1) := by decide +kernel
theorem dX0_isRight_44 : decode cX0_isRight 44 = .ok (.iload 6, 2) := by decide +kernel
theorem dX0_isRight_46 : decode cX0_isRight 46 = .ok (.iconst 0, 1) := by decide +kernel
theorem dX0_isRight_47 : decode cX0_isRight 47 = .ok (.invokevirtual 129, 3) := by decide +kernel
theorem dX0_isRight_50 : decode cX0_isRight 50 = .ok (.isub, 1) := by decide +kernel
theorem dX0_isRight_51 : decode cX0_isRight 51 = .ok (.istore 7, 2) := by decide +kernel
theorem dX0_isRight_53 : decode cX0_isRight 53 = .ok (.iload 7, 2) := by decide +kernel
theorem dX0_isRight_55 : decode cX0_isRight 55 = .ok (.iload 4, 2) := by decide +kernel
theorem dX0_isRight_57 : decode cX0_isRight 57 = .ok (.if_icmp .eq 21, 3) := by decide +kernel
theorem dX0_isRight_60 : decode cX0_isRight 60 = .ok (.iload 7, 2) := by decide +kernel
theorem dX0_isRight_62 : decode cX0_isRight 62 = .ok (.iload 4, 2) := by decide +kernel
theorem dX0_isRight_64 : decode cX0_isRight 64 = .ok (.if_icmp .le 18, 3) := by decide +kernel
theorem dX0_isRight_67 : decode cX0_isRight 67 = .ok (.aload_n 0, 1) := by decide +kernel
theorem dX0_isRight_68 : decode cX0_isRight 68 = .ok (.iload_n 1, 1) := by decide +kernel
theorem dX0_isRight_69 : decode cX0_isRight 69 = .ok (.iload_n 2, 1) := by decide +kernel
theorem dX0_isRight_70 : decode cX0_isRight 70 = .ok (.iconst 3, 1) := by decide +kernel
theorem dX0_isRight_71 : decode cX0_isRight 71 = .ok (.invokevirtual 112, 3) := by decide +kernel
theorem dX0_isRight_74 : decode cX0_isRight 74 = .ok (.iconst 1, 1) := by decide +kernel
theorem dX0_isRight_75 : decode cX0_isRight 75 = .ok (.if_icmp .ne 7, 3) := by decide +kernel
theorem dX0_isRight_78 : decode cX0_isRight 78 = .ok (.iconst 1, 1) := by decide +kernel
theorem dX0_isRight_79 : decode cX0_isRight 79 = .ok (.goto 4, 3) := by decide +kernel
theorem dX0_isRight_82 : decode cX0_isRight 82 = .ok (.iconst 0, 1) := by decide +kernel
theorem dX0_isRight_83 : decode cX0_isRight 83 = .ok (.ireturn, 1) := by decide +kernel
theorem dX0_rightClaims_0 : decode cX0_rightClaims 0 = .ok (.iconst 0, 1) := by decide +kernel
theorem dX0_rightClaims_1 : decode cX0_rightClaims 1 = .ok (.istore_n 3, 1) := by decide +kernel
theorem dX0_rightClaims_2 : decode cX0_rightClaims 2 = .ok (.iconst 0, 1) := by decide +kernel
theorem dX0_rightClaims_3 : decode cX0_rightClaims 3 = .ok (.istore 4, 2) := by decide +kernel
theorem dX0_rightClaims_5 : decode cX0_rightClaims 5 = .ok (.iload 4, 2) := by decide +kernel
theorem dX0_rightClaims_7 : decode cX0_rightClaims 7 = .ok (.aload_n 0, 1) := by decide +kernel
theorem dX0_rightClaims_8 : decode cX0_rightClaims 8 = .ok (.iload_n 1, 1) := by decide +kernel
theorem dX0_rightClaims_9 : decode cX0_rightClaims 9 = .ok (.invokevirtual 109, 3) := by decide +kernel
theorem dX0_rightClaims_12 : decode cX0_rightClaims 12 = .ok (.if_icmp .ge 23, 3) := by decide +kernel
theorem dX0_rightClaims_15 : decode cX0_rightClaims 15 = .ok (.aload_n 0, 1) := by decide +kernel
theorem dX0_rightClaims_16 : decode cX0_rightClaims 16 = .ok (.iload_n 1, 1) := by decide +kernel
theorem dX0_rightClaims_17 : decode cX0_rightClaims 17 = .ok (.iload 4, 2) := by decide +kernel
theorem dX0_rightClaims_19 : decode cX0_rightClaims 19 = .ok (.aload_n 2, 1) := by decide +kernel
theorem dX0_rightClaims_20 : decode cX0_rightClaims 20 = .ok (.invokevirtual 132, 3) := by decide +kernel
theorem dX0_rightClaims_23 : decode cX0_rightClaims 23 = .ok (.ifCond .eq 6, 3) := by decide +kernel
theorem dX0_rightClaims_26 : decode cX0_rightClaims 26 = .ok (.iinc 3 1, 3) := by decide +kernel
theorem dX0_rightClaims_29 : decode cX0_rightClaims 29 = .ok (.iinc 4 1, 3) := by decide +kernel
theorem dX0_rightClaims_32 : decode cX0_rightClaims 32 = .ok (.goto (-27), 3) := by decide +kernel
theorem dX0_rightClaims_35 : decode cX0_rightClaims 35 = .ok (.iload_n 3, 1) := by decide +kernel
theorem dX0_rightClaims_36 : decode cX0_rightClaims 36 = .ok (.ireturn, 1) := by decide +kernel
theorem dX0_claimPoints_0 : decode cX0_claimPoints 0 = .ok (.iconst 0, 1) := by decide +kernel
theorem dX0_claimPoints_1 : decode cX0_claimPoints 1 = .ok (.istore_n 3, 1) := by decide +kernel
theorem dX0_claimPoints_2 : decode cX0_claimPoints 2 = .ok (.iconst 0, 1) := by decide +kernel
theorem dX0_claimPoints_3 : decode cX0_claimPoints 3 = .ok (.istore 4, 2) := by decide +kernel
theorem dX0_claimPoints_5 : decode cX0_claimPoints 5 = .ok (.iload 4, 2) := by decide +kernel
theorem dX0_claimPoints_7 : decode cX0_claimPoints 7 = .ok (.aload_n 0, 1) := by decide +kernel
theorem dX0_claimPoints_8 : decode cX0_claimPoints 8 = .ok (.iload_n 1, 1) := by decide +kernel
theorem dX0_claimPoints_9 : decode cX0_claimPoints 9 = .ok (.invokevirtual 109, 3) := by decide +kernel
theorem dX0_claimPoints_12 : decode cX0_claimPoints 12 = .ok (.if_icmp .ge 41, 3) := by decide +kernel
theorem dX0_claimPoints_15 : decode cX0_claimPoints 15 = .ok (.aload_n 0, 1) := by decide +kernel
theorem dX0_claimPoints_16 : decode cX0_claimPoints 16 = .ok (.iload_n 1, 1) := by decide +kernel
theorem dX0_claimPoints_17 : decode cX0_claimPoints 17 = .ok (.iload 4, 2) := by decide +kernel
theorem dX0_claimPoints_19 : decode cX0_claimPoints 19 = .ok (.iconst 4, 1) := by decide +kernel
theorem dX0_claimPoints_20 : decode cX0_claimPoints 20 = .ok (.invokevirtual 112, 3) := by decide +kernel
theorem dX0_claimPoints_23 : decode cX0_claimPoints 23 = .ok (.istore 5, 2) := by decide +kernel
theorem dX0_claimPoints_25 : decode cX0_claimPoints 25 = .ok (.iload_n 3, 1) := by decide +kernel
theorem dX0_claimPoints_26 : decode cX0_claimPoints 26 = .ok (.aload_n 0, 1) := by decide +kernel
theorem dX0_claimPoints_27 : decode cX0_claimPoints 27 = .ok (.iload_n 1, 1) := by decide +kernel
theorem dX0_claimPoints_28 : decode cX0_claimPoints 28 = .ok (.iload 4, 2) := by decide +kernel
theorem dX0_claimPoints_30 : decode cX0_claimPoints 30 = .ok (.aload_n 2, 1) := by decide +kernel
theorem dX0_claimPoints_31 : decode cX0_claimPoints 31 = .ok (.invokevirtual 132, 3) := by decide +kernel
theorem dX0_claimPoints_34 : decode cX0_claimPoints 34 = .ok (.ifCond .eq 8, 3) := by decide +kernel
theorem dX0_claimPoints_37 : decode cX0_claimPoints 37 = .ok (.iload 5, 2) := by decide +kernel
theorem dX0_claimPoints_39 : decode cX0_claimPoints 39 = .ok (.goto 6, 3) := by decide +kernel
theorem dX0_claimPoints_42 : decode cX0_claimPoints 42 = .ok (.iload 5, 2) := by decide +kernel
theorem dX0_claimPoints_44 : decode cX0_claimPoints 44 = .ok (.ineg, 1) := by decide +kernel
theorem dX0_claimPoints_45 : decode cX0_claimPoints 45 = .ok (.iadd, 1) := by decide +kernel
theorem dX0_claimPoints_46 : decode cX0_claimPoints 46 = .ok (.istore_n 3, 1) := by decide +kernel
theorem dX0_claimPoints_47 : decode cX0_claimPoints 47 = .ok (.iinc 4 1, 3) := by decide +kernel
theorem dX0_claimPoints_50 : decode cX0_claimPoints 50 = .ok (.goto (-45), 3) := by decide +kernel
theorem dX0_claimPoints_53 : decode cX0_claimPoints 53 = .ok (.iload_n 3, 1) := by decide +kernel
theorem dX0_claimPoints_54 : decode cX0_claimPoints 54 = .ok (.ireturn, 1) := by decide +kernel
theorem dX0_signPoints_0 : decode cX0_signPoints 0 = .ok (.iconst 0, 1) := by decide +kernel
theorem dX0_signPoints_1 : decode cX0_signPoints 1 = .ok (.istore_n 2, 1) := by decide +kernel
theorem dX0_signPoints_2 : decode cX0_signPoints 2 = .ok (.iload_n 1, 1) := by decide +kernel
theorem dX0_signPoints_3 : decode cX0_signPoints 3 = .ok (.ifCond .ne 7, 3) := by decide +kernel
theorem dX0_signPoints_6 : decode cX0_signPoints 6 = .ok (.iconst 1, 1) := by decide +kernel
theorem dX0_signPoints_7 : decode cX0_signPoints 7 = .ok (.goto 4, 3) := by decide +kernel
theorem dX0_signPoints_10 : decode cX0_signPoints 10 = .ok (.iconst (-1), 1) := by decide +kernel
theorem dX0_signPoints_11 : decode cX0_signPoints 11 = .ok (.istore_n 3, 1) := by decide +kernel
theorem dX0_signPoints_12 : decode cX0_signPoints 12 = .ok (.aload_n 0, 1) := by decide +kernel
theorem dX0_signPoints_13 : decode cX0_signPoints 13 = .ok (.getfield 9, 3) := by decide +kernel
theorem dX0_signPoints_16 : decode cX0_signPoints 16 = .ok (.iconst 3, 1) := by decide +kernel
theorem dX0_signPoints_17 : decode cX0_signPoints 17 = .ok (.iaload, 1) := by decide +kernel
theorem dX0_signPoints_18 : decode cX0_signPoints 18 = .ok (.ineg, 1) := by decide +kernel
theorem dX0_signPoints_19 : decode cX0_signPoints 19 = .ok (.istore 4, 2) := by decide +kernel
theorem dX0_signPoints_21 : decode cX0_signPoints 21 = .ok (.iload 4, 2) := by decide +kernel
theorem dX0_signPoints_23 : decode cX0_signPoints 23 = .ok (.aload_n 0, 1) := by decide +kernel
theorem dX0_signPoints_24 : decode cX0_signPoints 24 = .ok (.getfield 9, 3) := by decide +kernel
theorem dX0_signPoints_27 : decode cX0_signPoints 27 = .ok (.iconst 3, 1) := by decide +kernel
theorem dX0_signPoints_28 : decode cX0_signPoints 28 = .ok (.iaload, 1) := by decide +kernel
theorem dX0_signPoints_29 : decode cX0_signPoints 29 = .ok (.if_icmp .gt 26, 3) := by decide +kernel
theorem dX0_signPoints_32 : decode cX0_signPoints 32 = .ok (.aload_n 0, 1) := by decide +kernel
theorem dX0_signPoints_33 : decode cX0_signPoints 33 = .ok (.iload 4, 2) := by decide +kernel
theorem dX0_signPoints_35 : decode cX0_signPoints 35 = .ok (.invokevirtual 136, 3) := by decide +kernel
theorem dX0_signPoints_38 : decode cX0_signPoints 38 = .ok (.lconst 0, 1) := by decide +kernel
theorem dX0_signPoints_39 : decode cX0_signPoints 39 = .ok (.invokestatic 140, 3) := by decide +kernel
theorem dX0_signPoints_42 : decode cX0_signPoints 42 = .ok (.iload_n 3, 1) := by decide +kernel
theorem dX0_signPoints_43 : decode cX0_signPoints 43 = .ok (.if_icmp .ne 6, 3) := by decide +kernel
theorem dX0_signPoints_46 : decode cX0_signPoints 46 = .ok (.iinc 2 1, 3) := by decide +kernel
theorem dX0_signPoints_49 : decode cX0_signPoints 49 = .ok (.iinc 4 1, 3) := by decide +kernel
theorem dX0_signPoints_52 : decode cX0_signPoints 52 = .ok (.goto (-31), 3) := by decide +kernel
theorem dX0_signPoints_55 : decode cX0_signPoints 55 = .ok (.iload_n 2, 1) := by decide +kernel
theorem dX0_signPoints_56 : decode cX0_signPoints 56 = .ok (.ireturn, 1) := by decide +kernel
theorem dX0_bonusPoints_0 : decode cX0_bonusPoints 0 = .ok (.aload_n 0, 1) := by decide +kernel
theorem dX0_bonusPoints_1 : decode cX0_bonusPoints 1 = .ok (.getfield 50, 3) := by decide +kernel
theorem dX0_bonusPoints_4 : decode cX0_bonusPoints 4 = .ok (.iload_n 1, 1) := by decide +kernel
theorem dX0_bonusPoints_5 : decode cX0_bonusPoints 5 = .ok (.if_icmp .ne 12, 3) := by decide +kernel
theorem dX0_bonusPoints_8 : decode cX0_bonusPoints 8 = .ok (.aload_n 0, 1) := by decide +kernel
theorem dX0_bonusPoints_9 : decode cX0_bonusPoints 9 = .ok (.getfield 9, 3) := by decide +kernel
theorem dX0_bonusPoints_12 : decode cX0_bonusPoints 12 = .ok (.iconst 5, 1) := by decide +kernel
theorem dX0_bonusPoints_13 : decode cX0_bonusPoints 13 = .ok (.iaload, 1) := by decide +kernel
theorem dX0_bonusPoints_14 : decode cX0_bonusPoints 14 = .ok (.goto 4, 3) := by decide +kernel
theorem dX0_bonusPoints_17 : decode cX0_bonusPoints 17 = .ok (.iconst 0, 1) := by decide +kernel
theorem dX0_bonusPoints_18 : decode cX0_bonusPoints 18 = .ok (.ireturn, 1) := by decide +kernel
theorem dX0_score_0 : decode cX0_score 0 = .ok (.aload_n 0, 1) := by decide +kernel
theorem dX0_score_1 : decode cX0_score 1 = .ok (.iload_n 1, 1) := by decide +kernel
theorem dX0_score_2 : decode cX0_score 2 = .ok (.invokevirtual 146, 3) := by decide +kernel
theorem dX0_score_5 : decode cX0_score 5 = .ok (.aload_n 0, 1) := by decide +kernel
theorem dX0_score_6 : decode cX0_score 6 = .ok (.iload_n 1, 1) := by decide +kernel
theorem dX0_score_7 : decode cX0_score 7 = .ok (.aload_n 2, 1) := by decide +kernel
theorem dX0_score_8 : decode cX0_score 8 = .ok (.invokevirtual 149, 3) := by decide +kernel
theorem dX0_score_11 : decode cX0_score 11 = .ok (.iadd, 1) := by decide +kernel
theorem dX0_score_12 : decode cX0_score 12 = .ok (.aload_n 0, 1) := by decide +kernel
theorem dX0_score_13 : decode cX0_score 13 = .ok (.iload_n 1, 1) := by decide +kernel
theorem dX0_score_14 : decode cX0_score 14 = .ok (.invokevirtual 153, 3) := by decide +kernel
theorem dX0_score_17 : decode cX0_score 17 = .ok (.iadd, 1) := by decide +kernel
theorem dX0_score_18 : decode cX0_score 18 = .ok (.ireturn, 1) := by decide +kernel
theorem dX0_valueAt_0 : decode cX0_valueAt 0 = .ok (.lconst 0, 1) := by decide +kernel
theorem dX0_valueAt_1 : decode cX0_valueAt 1 = .ok (.lstore_n 2, 1) := by decide +kernel
theorem dX0_valueAt_2 : decode cX0_valueAt 2 = .ok (.iconst 4, 1) := by decide +kernel
theorem dX0_valueAt_3 : decode cX0_valueAt 3 = .ok (.istore 4, 2) := by decide +kernel
theorem dX0_valueAt_5 : decode cX0_valueAt 5 = .ok (.iload 4, 2) := by decide +kernel
theorem dX0_valueAt_7 : decode cX0_valueAt 7 = .ok (.ifCond .lt 23, 3) := by decide +kernel
theorem dX0_valueAt_10 : decode cX0_valueAt 10 = .ok (.lload_n 2, 1) := by decide +kernel
theorem dX0_valueAt_11 : decode cX0_valueAt 11 = .ok (.iload_n 1, 1) := by decide +kernel
theorem dX0_valueAt_12 : decode cX0_valueAt 12 = .ok (.i2l, 1) := by decide +kernel
theorem dX0_valueAt_13 : decode cX0_valueAt 13 = .ok (.lmul, 1) := by decide +kernel
theorem dX0_valueAt_14 : decode cX0_valueAt 14 = .ok (.aload_n 0, 1) := by decide +kernel
theorem dX0_valueAt_15 : decode cX0_valueAt 15 = .ok (.getfield 15, 3) := by decide +kernel
theorem dX0_valueAt_18 : decode cX0_valueAt 18 = .ok (.iload 4, 2) := by decide +kernel
theorem dX0_valueAt_20 : decode cX0_valueAt 20 = .ok (.iaload, 1) := by decide +kernel
theorem dX0_valueAt_21 : decode cX0_valueAt 21 = .ok (.i2l, 1) := by decide +kernel
theorem dX0_valueAt_22 : decode cX0_valueAt 22 = .ok (.ladd, 1) := by decide +kernel
theorem dX0_valueAt_23 : decode cX0_valueAt 23 = .ok (.lstore_n 2, 1) := by decide +kernel
theorem dX0_valueAt_24 : decode cX0_valueAt 24 = .ok (.iinc 4 (-1), 3) := by decide +kernel
theorem dX0_valueAt_27 : decode cX0_valueAt 27 = .ok (.goto (-22), 3) := by decide +kernel
theorem dX0_valueAt_30 : decode cX0_valueAt 30 = .ok (.lload_n 2, 1) := by decide +kernel
theorem dX0_valueAt_31 : decode cX0_valueAt 31 = .ok (.lreturn, 1) := by decide +kernel
theorem dX1_init_0 : decode cX1_init 0 = .ok (.aload_n 0, 1) := by decide +kernel
theorem dX1_init_1 : decode cX1_init 1 = .ok (.invokespecial 3, 3) := by decide +kernel
theorem dX1_init_4 : decode cX1_init 4 = .ok (.aload_n 0, 1) := by decide +kernel
theorem dX1_init_5 : decode cX1_init 5 = .ok (.sipush 1024, 3) := by decide +kernel
theorem dX1_init_8 : decode cX1_init 8 = .ok (.newarray .byte, 2) := by decide +kernel
theorem dX1_init_10 : decode cX1_init 10 = .ok (.putfield 9, 3) := by decide +kernel
theorem dX1_init_13 : decode cX1_init 13 = .ok (.return_, 1) := by decide +kernel
theorem dX1_begin_0 : decode cX1_begin 0 = .ok (.aload_n 0, 1) := by decide +kernel
theorem dX1_begin_1 : decode cX1_begin 1 = .ok (.iconst 0, 1) := by decide +kernel
theorem dX1_begin_2 : decode cX1_begin 2 = .ok (.putfield 15, 3) := by decide +kernel
theorem dX1_begin_5 : decode cX1_begin 5 = .ok (.return_, 1) := by decide +kernel
theorem dX1_putSign_0 : decode cX1_putSign 0 = .ok (.aload_n 0, 1) := by decide +kernel
theorem dX1_putSign_1 : decode cX1_putSign 1 = .ok (.getfield 15, 3) := by decide +kernel
theorem dX1_putSign_4 : decode cX1_putSign 4 = .ok (.ifCond .lt 36, 3) := by decide +kernel
theorem dX1_putSign_7 : decode cX1_putSign 7 = .ok (.aload_n 0, 1) := by decide +kernel
theorem dX1_putSign_8 : decode cX1_putSign 8 = .ok (.getfield 15, 3) := by decide +kernel
theorem dX1_putSign_11 : decode cX1_putSign 11 = .ok (.aload_n 0, 1) := by decide +kernel
theorem dX1_putSign_12 : decode cX1_putSign 12 = .ok (.getfield 9, 3) := by decide +kernel
theorem dX1_putSign_15 : decode cX1_putSign 15 = .ok (.arraylength, 1) := by decide +kernel
theorem dX1_putSign_16 : decode cX1_putSign 16 = .ok (.if_icmp .ge 24, 3) := by decide +kernel
theorem dX1_putSign_19 : decode cX1_putSign 19 = .ok (.aload_n 0, 1) := by decide +kernel
theorem dX1_putSign_20 : decode cX1_putSign 20 = .ok (.getfield 9, 3) := by decide +kernel
theorem dX1_putSign_23 : decode cX1_putSign 23 = .ok (.aload_n 0, 1) := by decide +kernel
theorem dX1_putSign_24 : decode cX1_putSign 24 = .ok (.getfield 15, 3) := by decide +kernel
theorem dX1_putSign_27 : decode cX1_putSign 27 = .ok (.iload_n 1, 1) := by decide +kernel
theorem dX1_putSign_28 : decode cX1_putSign 28 = .ok (.i2b, 1) := by decide +kernel
theorem dX1_putSign_29 : decode cX1_putSign 29 = .ok (.bastore, 1) := by decide +kernel
theorem dX1_putSign_30 : decode cX1_putSign 30 = .ok (.aload_n 0, 1) := by decide +kernel
theorem dX1_putSign_31 : decode cX1_putSign 31 = .ok (.dup, 1) := by decide +kernel
theorem dX1_putSign_32 : decode cX1_putSign 32 = .ok (.getfield 15, 3) := by decide +kernel
theorem dX1_putSign_35 : decode cX1_putSign 35 = .ok (.iconst 1, 1) := by decide +kernel
theorem dX1_putSign_36 : decode cX1_putSign 36 = .ok (.iadd, 1) := by decide +kernel
theorem dX1_putSign_37 : decode cX1_putSign 37 = .ok (.putfield 15, 3) := by decide +kernel
theorem dX1_putSign_40 : decode cX1_putSign 40 = .ok (.return_, 1) := by decide +kernel
theorem dX1_putText_0 : decode cX1_putText 0 = .ok (.iconst 0, 1) := by decide +kernel
theorem dX1_putText_1 : decode cX1_putText 1 = .ok (.istore_n 2, 1) := by decide +kernel
theorem dX1_putText_2 : decode cX1_putText 2 = .ok (.iload_n 2, 1) := by decide +kernel
theorem dX1_putText_3 : decode cX1_putText 3 = .ok (.aload_n 1, 1) := by decide +kernel
theorem dX1_putText_4 : decode cX1_putText 4 = .ok (.invokevirtual 19, 3) := by decide +kernel
theorem dX1_putText_7 : decode cX1_putText 7 = .ok (.if_icmp .ge 18, 3) := by decide +kernel
theorem dX1_putText_10 : decode cX1_putText 10 = .ok (.aload_n 0, 1) := by decide +kernel
theorem dX1_putText_11 : decode cX1_putText 11 = .ok (.aload_n 1, 1) := by decide +kernel
theorem dX1_putText_12 : decode cX1_putText 12 = .ok (.iload_n 2, 1) := by decide +kernel
theorem dX1_putText_13 : decode cX1_putText 13 = .ok (.invokevirtual 24, 3) := by decide +kernel
theorem dX1_putText_16 : decode cX1_putText 16 = .ok (.invokevirtual 28, 3) := by decide +kernel
theorem dX1_putText_19 : decode cX1_putText 19 = .ok (.iinc 2 1, 3) := by decide +kernel
theorem dX1_putText_22 : decode cX1_putText 22 = .ok (.goto (-20), 3) := by decide +kernel
theorem dX1_putText_25 : decode cX1_putText 25 = .ok (.return_, 1) := by decide +kernel
theorem dX1_putNumber_0 : decode cX1_putNumber 0 = .ok (.iload_n 1, 1) := by decide +kernel
theorem dX1_putNumber_1 : decode cX1_putNumber 1 = .ok (.ifCond .ge 9, 3) := by decide +kernel
theorem dX1_putNumber_4 : decode cX1_putNumber 4 = .ok (.aload_n 0, 1) := by decide +kernel
theorem dX1_putNumber_5 : decode cX1_putNumber 5 = .ok (.bipush 45, 2) := by decide +kernel
theorem dX1_putNumber_7 : decode cX1_putNumber 7 = .ok (.invokevirtual 28, 3) := by decide +kernel
theorem dX1_putNumber_10 : decode cX1_putNumber 10 = .ok (.iload_n 1, 1) := by decide +kernel
theorem dX1_putNumber_11 : decode cX1_putNumber 11 = .ok (.invokestatic 32, 3) := by decide +kernel
theorem dX1_putNumber_14 : decode cX1_putNumber 14 = .ok (.istore_n 2, 1) := by decide +kernel
theorem dX1_putNumber_15 : decode cX1_putNumber 15 = .ok (.iload_n 2, 1) := by decide +kernel
theorem dX1_putNumber_16 : decode cX1_putNumber 16 = .ok (.bipush 10, 2) := by decide +kernel
theorem dX1_putNumber_18 : decode cX1_putNumber 18 = .ok (.if_icmp .lt 15, 3) := by decide +kernel
theorem dX1_putNumber_21 : decode cX1_putNumber 21 = .ok (.aload_n 0, 1) := by decide +kernel
theorem dX1_putNumber_22 : decode cX1_putNumber 22 = .ok (.bipush 48, 2) := by decide +kernel
theorem dX1_putNumber_24 : decode cX1_putNumber 24 = .ok (.iload_n 2, 1) := by decide +kernel
theorem dX1_putNumber_25 : decode cX1_putNumber 25 = .ok (.bipush 10, 2) := by decide +kernel
theorem dX1_putNumber_27 : decode cX1_putNumber 27 = .ok (.idiv, 1) := by decide +kernel
theorem dX1_putNumber_28 : decode cX1_putNumber 28 = .ok (.iadd, 1) := by decide +kernel
theorem dX1_putNumber_29 : decode cX1_putNumber 29 = .ok (.i2c, 1) := by decide +kernel
theorem dX1_putNumber_30 : decode cX1_putNumber 30 = .ok (.invokevirtual 28, 3) := by decide +kernel
theorem dX1_putNumber_33 : decode cX1_putNumber 33 = .ok (.aload_n 0, 1) := by decide +kernel
theorem dX1_putNumber_34 : decode cX1_putNumber 34 = .ok (.bipush 48, 2) := by decide +kernel
theorem dX1_putNumber_36 : decode cX1_putNumber 36 = .ok (.iload_n 2, 1) := by decide +kernel
theorem dX1_putNumber_37 : decode cX1_putNumber 37 = .ok (.bipush 10, 2) := by decide +kernel
theorem dX1_putNumber_39 : decode cX1_putNumber 39 = .ok (.irem, 1) := by decide +kernel
theorem dX1_putNumber_40 : decode cX1_putNumber 40 = .ok (.iadd, 1) := by decide +kernel
theorem dX1_putNumber_41 : decode cX1_putNumber 41 = .ok (.i2c, 1) := by decide +kernel
theorem dX1_putNumber_42 : decode cX1_putNumber 42 = .ok (.invokevirtual 28, 3) := by decide +kernel
theorem dX1_putNumber_45 : decode cX1_putNumber 45 = .ok (.return_, 1) := by decide +kernel
theorem dX1_putSpaced_0 : decode cX1_putSpaced 0 = .ok (.aload_n 0, 1) := by decide +kernel
theorem dX1_putSpaced_1 : decode cX1_putSpaced 1 = .ok (.bipush 32, 2) := by decide +kernel
theorem dX1_putSpaced_3 : decode cX1_putSpaced 3 = .ok (.invokevirtual 28, 3) := by decide +kernel
theorem dX1_putSpaced_6 : decode cX1_putSpaced 6 = .ok (.aload_n 0, 1) := by decide +kernel
theorem dX1_putSpaced_7 : decode cX1_putSpaced 7 = .ok (.iload_n 1, 1) := by decide +kernel
theorem dX1_putSpaced_8 : decode cX1_putSpaced 8 = .ok (.invokevirtual 38, 3) := by decide +kernel
theorem dX1_putSpaced_11 : decode cX1_putSpaced 11 = .ok (.return_, 1) := by decide +kernel
theorem dX1_putTerm_0 : decode cX1_putTerm 0 = .ok (.iload_n 1, 1) := by decide +kernel
theorem dX1_putTerm_1 : decode cX1_putTerm 1 = .ok (.ifCond .ne 10, 3) := by decide +kernel
theorem dX1_putTerm_4 : decode cX1_putTerm 4 = .ok (.aload_n 0, 1) := by decide +kernel
theorem dX1_putTerm_5 : decode cX1_putTerm 5 = .ok (.ldc 46, 2) := by decide +kernel
theorem dX1_putTerm_7 : decode cX1_putTerm 7 = .ok (.invokevirtual 48, 3) := by decide +kernel
theorem dX1_putTerm_10 : decode cX1_putTerm 10 = .ok (.return_, 1) := by decide +kernel
theorem dX1_putTerm_11 : decode cX1_putTerm 11 = .ok (.aload_n 0, 1) := by decide +kernel
theorem dX1_putTerm_12 : decode cX1_putTerm 12 = .ok (.ldc 52, 2) := by decide +kernel
theorem dX1_putTerm_14 : decode cX1_putTerm 14 = .ok (.invokevirtual 48, 3) := by decide +kernel
theorem dX1_putTerm_17 : decode cX1_putTerm 17 = .ok (.aload_n 0, 1) := by decide +kernel
theorem dX1_putTerm_18 : decode cX1_putTerm 18 = .ok (.iload_n 1, 1) := by decide +kernel
theorem dX1_putTerm_19 : decode cX1_putTerm 19 = .ok (.invokevirtual 54, 3) := by decide +kernel
theorem dX1_putTerm_22 : decode cX1_putTerm 22 = .ok (.aload_n 0, 1) := by decide +kernel
theorem dX1_putTerm_23 : decode cX1_putTerm 23 = .ok (.iload_n 2, 1) := by decide +kernel
theorem dX1_putTerm_24 : decode cX1_putTerm 24 = .ok (.invokevirtual 54, 3) := by decide +kernel
theorem dX1_putTerm_27 : decode cX1_putTerm 27 = .ok (.aload_n 0, 1) := by decide +kernel
theorem dX1_putTerm_28 : decode cX1_putTerm 28 = .ok (.bipush 59, 2) := by decide +kernel
theorem dX1_putTerm_30 : decode cX1_putTerm 30 = .ok (.invokevirtual 28, 3) := by decide +kernel
theorem dX1_putTerm_33 : decode cX1_putTerm 33 = .ok (.return_, 1) := by decide +kernel
theorem dX1_putClaims_0 : decode cX1_putClaims 0 = .ok (.iload_n 2, 1) := by decide +kernel
theorem dX1_putClaims_1 : decode cX1_putClaims 1 = .ok (.iconst 2, 1) := by decide +kernel
theorem dX1_putClaims_2 : decode cX1_putClaims 2 = .ok (.irem, 1) := by decide +kernel
theorem dX1_putClaims_3 : decode cX1_putClaims 3 = .ok (.istore_n 3, 1) := by decide +kernel
theorem dX1_putClaims_4 : decode cX1_putClaims 4 = .ok (.iconst 0, 1) := by decide +kernel
theorem dX1_putClaims_5 : decode cX1_putClaims 5 = .ok (.istore 4, 2) := by decide +kernel
theorem dX1_putClaims_7 : decode cX1_putClaims 7 = .ok (.iload 4, 2) := by decide +kernel
theorem dX1_putClaims_9 : decode cX1_putClaims 9 = .ok (.aload_n 1, 1) := by decide +kernel
theorem dX1_putClaims_10 : decode cX1_putClaims 10 = .ok (.iload_n 3, 1) := by decide +kernel
theorem dX1_putClaims_11 : decode cX1_putClaims 11 = .ok (.invokevirtual 57, 3) := by decide +kernel
theorem dX1_putClaims_14 : decode cX1_putClaims 14 = .ok (.if_icmp .ge 29, 3) := by decide +kernel
theorem dX1_putClaims_17 : decode cX1_putClaims 17 = .ok (.aload_n 1, 1) := by decide +kernel
theorem dX1_putClaims_18 : decode cX1_putClaims 18 = .ok (.iload_n 3, 1) := by decide +kernel
theorem dX1_putClaims_19 : decode cX1_putClaims 19 = .ok (.iload 4, 2) := by decide +kernel
theorem dX1_putClaims_21 : decode cX1_putClaims 21 = .ok (.iconst 5, 1) := by decide +kernel
theorem dX1_putClaims_22 : decode cX1_putClaims 22 = .ok (.invokevirtual 62, 3) := by decide +kernel
theorem dX1_putClaims_25 : decode cX1_putClaims 25 = .ok (.iload_n 2, 1) := by decide +kernel
theorem dX1_putClaims_26 : decode cX1_putClaims 26 = .ok (.if_icmp .ne 11, 3) := by decide +kernel
theorem dX1_putClaims_29 : decode cX1_putClaims 29 = .ok (.aload_n 0, 1) := by decide +kernel
theorem dX1_putClaims_30 : decode cX1_putClaims 30 = .ok (.aload_n 1, 1) := by decide +kernel
theorem dX1_putClaims_31 : decode cX1_putClaims 31 = .ok (.iload_n 3, 1) := by decide +kernel
theorem dX1_putClaims_32 : decode cX1_putClaims 32 = .ok (.iload 4, 2) := by decide +kernel
theorem dX1_putClaims_34 : decode cX1_putClaims 34 = .ok (.invokevirtual 66, 3) := by decide +kernel
theorem dX1_putClaims_37 : decode cX1_putClaims 37 = .ok (.iinc 4 1, 3) := by decide +kernel
theorem dX1_putClaims_40 : decode cX1_putClaims 40 = .ok (.goto (-33), 3) := by decide +kernel
theorem dX1_putClaims_43 : decode cX1_putClaims 43 = .ok (.return_, 1) := by decide +kernel
theorem dX1_putClaim_0 : decode cX1_putClaim 0 = .ok (.aload_n 0, 1) := by decide +kernel
theorem dX1_putClaim_1 : decode cX1_putClaim 1 = .ok (.aload_n 1, 1) := by decide +kernel
theorem dX1_putClaim_2 : decode cX1_putClaim 2 = .ok (.iload_n 2, 1) := by decide +kernel
theorem dX1_putClaim_3 : decode cX1_putClaim 3 = .ok (.iload_n 3, 1) := by decide +kernel
theorem dX1_putClaim_4 : decode cX1_putClaim 4 = .ok (.iconst 3, 1) := by decide +kernel
theorem dX1_putClaim_5 : decode cX1_putClaim 5 = .ok (.invokevirtual 62, 3) := by decide +kernel
theorem dX1_putClaim_8 : decode cX1_putClaim 8 = .ok (.iconst 1, 1) := by decide +kernel
theorem dX1_putClaim_9 : decode cX1_putClaim 9 = .ok (.if_icmp .ne 8, 3) := by decide +kernel
theorem dX1_putClaim_12 : decode cX1_putClaim 12 = .ok (.ldc 70, 2) := by decide +kernel
theorem dX1_putClaim_14 : decode cX1_putClaim 14 = .ok (.goto 5, 3) := by decide +kernel
theorem dX1_putClaim_17 : decode cX1_putClaim 17 = .ok (.ldc 72, 2) := by decide +kernel
theorem dX1_putClaim_19 : decode cX1_putClaim 19 = .ok (.invokevirtual 48, 3) := by decide +kernel
theorem dX1_putClaim_22 : decode cX1_putClaim 22 = .ok (.aload_n 0, 1) := by decide +kernel
theorem dX1_putClaim_23 : decode cX1_putClaim 23 = .ok (.aload_n 1, 1) := by decide +kernel
theorem dX1_putClaim_24 : decode cX1_putClaim 24 = .ok (.iload_n 2, 1) := by decide +kernel
theorem dX1_putClaim_25 : decode cX1_putClaim 25 = .ok (.iload_n 3, 1) := by decide +kernel
theorem dX1_putClaim_26 : decode cX1_putClaim 26 = .ok (.iconst 0, 1) := by decide +kernel
theorem dX1_putClaim_27 : decode cX1_putClaim 27 = .ok (.invokevirtual 62, 3) := by decide +kernel
theorem dX1_putClaim_30 : decode cX1_putClaim 30 = .ok (.invokevirtual 54, 3) := by decide +kernel
theorem dX1_putClaim_33 : decode cX1_putClaim 33 = .ok (.aload_n 0, 1) := by decide +kernel
theorem dX1_putClaim_34 : decode cX1_putClaim 34 = .ok (.aload_n 1, 1) := by decide +kernel
theorem dX1_putClaim_35 : decode cX1_putClaim 35 = .ok (.iload_n 2, 1) := by decide +kernel
theorem dX1_putClaim_36 : decode cX1_putClaim 36 = .ok (.iload_n 3, 1) := by decide +kernel
theorem dX1_putClaim_37 : decode cX1_putClaim 37 = .ok (.iconst 1, 1) := by decide +kernel
theorem dX1_putClaim_38 : decode cX1_putClaim 38 = .ok (.invokevirtual 62, 3) := by decide +kernel
theorem dX1_putClaim_41 : decode cX1_putClaim 41 = .ok (.invokevirtual 54, 3) := by decide +kernel
theorem dX1_putClaim_44 : decode cX1_putClaim 44 = .ok (.aload_n 0, 1) := by decide +kernel
theorem dX1_putClaim_45 : decode cX1_putClaim 45 = .ok (.aload_n 1, 1) := by decide +kernel
theorem dX1_putClaim_46 : decode cX1_putClaim 46 = .ok (.iload_n 2, 1) := by decide +kernel
theorem dX1_putClaim_47 : decode cX1_putClaim 47 = .ok (.iload_n 3, 1) := by decide +kernel
theorem dX1_putClaim_48 : decode cX1_putClaim 48 = .ok (.iconst 2, 1) := by decide +kernel
theorem dX1_putClaim_49 : decode cX1_putClaim 49 = .ok (.invokevirtual 62, 3) := by decide +kernel
theorem dX1_putClaim_52 : decode cX1_putClaim 52 = .ok (.invokevirtual 54, 3) := by decide +kernel
theorem dX1_putClaim_55 : decode cX1_putClaim 55 = .ok (.aload_n 0, 1) := by decide +kernel
theorem dX1_putClaim_56 : decode cX1_putClaim 56 = .ok (.aload_n 1, 1) := by decide +kernel
theorem dX1_putClaim_57 : decode cX1_putClaim 57 = .ok (.iload_n 2, 1) := by decide +kernel
theorem dX1_putClaim_58 : decode cX1_putClaim 58 = .ok (.iload_n 3, 1) := by decide +kernel
theorem dX1_putClaim_59 : decode cX1_putClaim 59 = .ok (.iconst 4, 1) := by decide +kernel
theorem dX1_putClaim_60 : decode cX1_putClaim 60 = .ok (.invokevirtual 62, 3) := by decide +kernel
theorem dX1_putClaim_63 : decode cX1_putClaim 63 = .ok (.invokevirtual 54, 3) := by decide +kernel
theorem dX1_putClaim_66 : decode cX1_putClaim 66 = .ok (.aload_n 0, 1) := by decide +kernel
theorem dX1_putClaim_67 : decode cX1_putClaim 67 = .ok (.bipush 59, 2) := by decide +kernel
theorem dX1_putClaim_69 : decode cX1_putClaim 69 = .ok (.invokevirtual 28, 3) := by decide +kernel
theorem dX1_putClaim_72 : decode cX1_putClaim 72 = .ok (.return_, 1) := by decide +kernel
theorem dX2_init_0 : decode cX2_init 0 = .ok (.aload_n 0, 1) := by decide +kernel
theorem dX2_init_1 : decode cX2_init 1 = .ok (.invokespecial 3, 3) := by decide +kernel
theorem dX2_init_4 : decode cX2_init 4 = .ok (.aload_n 0, 1) := by decide +kernel
theorem dX2_init_5 : decode cX2_init 5 = .ok (.sipush 600, 3) := by decide +kernel
theorem dX2_init_8 : decode cX2_init 8 = .ok (.newarray .byte, 2) := by decide +kernel
theorem dX2_init_10 : decode cX2_init 10 = .ok (.putfield 9, 3) := by decide +kernel
theorem dX2_init_13 : decode cX2_init 13 = .ok (.aload_n 0, 1) := by decide +kernel
theorem dX2_init_14 : decode cX2_init 14 = .ok (.sipush 240, 3) := by decide +kernel
theorem dX2_init_17 : decode cX2_init 17 = .ok (.newarray .int, 2) := by decide +kernel
theorem dX2_init_19 : decode cX2_init 19 = .ok (.putfield 15, 3) := by decide +kernel
theorem dX2_init_22 : decode cX2_init 22 = .ok (.aload_n 0, 1) := by decide +kernel
theorem dX2_init_23 : decode cX2_init 23 = .ok (.iconst (-1), 1) := by decide +kernel
theorem dX2_init_24 : decode cX2_init 24 = .ok (.putfield 19, 3) := by decide +kernel
theorem dX2_init_27 : decode cX2_init 27 = .ok (.return_, 1) := by decide +kernel
theorem dX2_hasRoom_0 : decode cX2_hasRoom 0 = .ok (.aload_n 0, 1) := by decide +kernel
theorem dX2_hasRoom_1 : decode cX2_hasRoom 1 = .ok (.getfield 23, 3) := by decide +kernel
theorem dX2_hasRoom_4 : decode cX2_hasRoom 4 = .ok (.iload_n 1, 1) := by decide +kernel
theorem dX2_hasRoom_5 : decode cX2_hasRoom 5 = .ok (.iadd, 1) := by decide +kernel
theorem dX2_hasRoom_6 : decode cX2_hasRoom 6 = .ok (.sipush 600, 3) := by decide +kernel
theorem dX2_hasRoom_9 : decode cX2_hasRoom 9 = .ok (.if_icmp .gt 7, 3) := by decide +kernel
theorem dX2_hasRoom_12 : decode cX2_hasRoom 12 = .ok (.iconst 1, 1) := by decide +kernel
theorem dX2_hasRoom_13 : decode cX2_hasRoom 13 = .ok (.goto 4, 3) := by decide +kernel
theorem dX2_hasRoom_16 : decode cX2_hasRoom 16 = .ok (.iconst 0, 1) := by decide +kernel
theorem dX2_hasRoom_17 : decode cX2_hasRoom 17 = .ok (.ireturn, 1) := by decide +kernel
theorem dX2_append_0 : decode cX2_append 0 = .ok (.aload_n 0, 1) := by decide +kernel
theorem dX2_append_1 : decode cX2_append 1 = .ok (.getfield 23, 3) := by decide +kernel
theorem dX2_append_4 : decode cX2_append 4 = .ok (.ifCond .lt 35, 3) := by decide +kernel
theorem dX2_append_7 : decode cX2_append 7 = .ok (.aload_n 0, 1) := by decide +kernel
theorem dX2_append_8 : decode cX2_append 8 = .ok (.getfield 23, 3) := by decide +kernel
theorem dX2_append_11 : decode cX2_append 11 = .ok (.aload_n 0, 1) := by decide +kernel
theorem dX2_append_12 : decode cX2_append 12 = .ok (.getfield 9, 3) := by decide +kernel
theorem dX2_append_15 : decode cX2_append 15 = .ok (.arraylength, 1) := by decide +kernel
theorem dX2_append_16 : decode cX2_append 16 = .ok (.if_icmp .ge 23, 3) := by decide +kernel
theorem dX2_append_19 : decode cX2_append 19 = .ok (.aload_n 0, 1) := by decide +kernel
theorem dX2_append_20 : decode cX2_append 20 = .ok (.getfield 9, 3) := by decide +kernel
theorem dX2_append_23 : decode cX2_append 23 = .ok (.aload_n 0, 1) := by decide +kernel
theorem dX2_append_24 : decode cX2_append 24 = .ok (.getfield 23, 3) := by decide +kernel
theorem dX2_append_27 : decode cX2_append 27 = .ok (.iload_n 1, 1) := by decide +kernel
theorem dX2_append_28 : decode cX2_append 28 = .ok (.bastore, 1) := by decide +kernel
theorem dX2_append_29 : decode cX2_append 29 = .ok (.aload_n 0, 1) := by decide +kernel
theorem dX2_append_30 : decode cX2_append 30 = .ok (.dup, 1) := by decide +kernel
theorem dX2_append_31 : decode cX2_append 31 = .ok (.getfield 23, 3) := by decide +kernel
theorem dX2_append_34 : decode cX2_append 34 = .ok (.iconst 1, 1) := by decide +kernel
theorem dX2_append_35 : decode cX2_append 35 = .ok (.iadd, 1) := by decide +kernel
theorem dX2_append_36 : decode cX2_append 36 = .ok (.putfield 23, 3) := by decide +kernel
theorem dX2_append_39 : decode cX2_append 39 = .ok (.return_, 1) := by decide +kernel
theorem dX2_kindAt_0 : decode cX2_kindAt 0 = .ok (.iload_n 1, 1) := by decide +kernel
theorem dX2_kindAt_1 : decode cX2_kindAt 1 = .ok (.ifCond .lt 20, 3) := by decide +kernel
theorem dX2_kindAt_4 : decode cX2_kindAt 4 = .ok (.iload_n 1, 1) := by decide +kernel
theorem dX2_kindAt_5 : decode cX2_kindAt 5 = .ok (.aload_n 0, 1) := by decide +kernel
theorem dX2_kindAt_6 : decode cX2_kindAt 6 = .ok (.getfield 23, 3) := by decide +kernel
theorem dX2_kindAt_9 : decode cX2_kindAt 9 = .ok (.if_icmp .ge 12, 3) := by decide +kernel
theorem dX2_kindAt_12 : decode cX2_kindAt 12 = .ok (.iload_n 1, 1) := by decide +kernel
theorem dX2_kindAt_13 : decode cX2_kindAt 13 = .ok (.aload_n 0, 1) := by decide +kernel
theorem dX2_kindAt_14 : decode cX2_kindAt 14 = .ok (.getfield 9, 3) := by decide +kernel
theorem dX2_kindAt_17 : decode cX2_kindAt 17 = .ok (.arraylength, 1) := by decide +kernel
theorem dX2_kindAt_18 : decode cX2_kindAt 18 = .ok (.if_icmp .lt 5, 3) := by decide +kernel
theorem dX2_kindAt_21 : decode cX2_kindAt 21 = .ok (.iconst 0, 1) := by decide +kernel
theorem dX2_kindAt_22 : decode cX2_kindAt 22 = .ok (.ireturn, 1) := by decide +kernel
theorem dX2_kindAt_23 : decode cX2_kindAt 23 = .ok (.aload_n 0, 1) := by decide +kernel
theorem dX2_kindAt_24 : decode cX2_kindAt 24 = .ok (.getfield 9, 3) := by decide +kernel
theorem dX2_kindAt_27 : decode cX2_kindAt 27 = .ok (.iload_n 1, 1) := by decide +kernel
theorem dX2_kindAt_28 : decode cX2_kindAt 28 = .ok (.baload, 1) := by decide +kernel
theorem dX2_kindAt_29 : decode cX2_kindAt 29 = .ok (.istore_n 2, 1) := by decide +kernel
theorem dX2_kindAt_30 : decode cX2_kindAt 30 = .ok (.iload_n 2, 1) := by decide +kernel
theorem dX2_kindAt_31 : decode cX2_kindAt 31 = .ok (.bipush 97, 2) := by decide +kernel
theorem dX2_kindAt_33 : decode cX2_kindAt 33 = .ok (.if_icmp .lt 11, 3) := by decide +kernel
theorem dX2_kindAt_36 : decode cX2_kindAt 36 = .ok (.iload_n 2, 1) := by decide +kernel
theorem dX2_kindAt_37 : decode cX2_kindAt 37 = .ok (.bipush 122, 2) := by decide +kernel
theorem dX2_kindAt_39 : decode cX2_kindAt 39 = .ok (.if_icmp .gt 5, 3) := by decide +kernel
theorem dX2_kindAt_42 : decode cX2_kindAt 42 = .ok (.iconst 1, 1) := by decide +kernel
theorem dX2_kindAt_43 : decode cX2_kindAt 43 = .ok (.ireturn, 1) := by decide +kernel
theorem dX2_kindAt_44 : decode cX2_kindAt 44 = .ok (.iload_n 2, 1) := by decide +kernel
theorem dX2_kindAt_45 : decode cX2_kindAt 45 = .ok (.bipush 48, 2) := by decide +kernel
theorem dX2_kindAt_47 : decode cX2_kindAt 47 = .ok (.if_icmp .lt 11, 3) := by decide +kernel
theorem dX2_kindAt_50 : decode cX2_kindAt 50 = .ok (.iload_n 2, 1) := by decide +kernel
theorem dX2_kindAt_51 : decode cX2_kindAt 51 = .ok (.bipush 57, 2) := by decide +kernel
theorem dX2_kindAt_53 : decode cX2_kindAt 53 = .ok (.if_icmp .gt 5, 3) := by decide +kernel
theorem dX2_kindAt_56 : decode cX2_kindAt 56 = .ok (.iconst 2, 1) := by decide +kernel
theorem dX2_kindAt_57 : decode cX2_kindAt 57 = .ok (.ireturn, 1) := by decide +kernel
theorem dX2_kindAt_58 : decode cX2_kindAt 58 = .ok (.iload_n 2, 1) := by decide +kernel
theorem dX2_kindAt_59 : decode cX2_kindAt 59 = .ok (.lookupswitch 48 #[(10, 41), (32, 41), (45, 44), (59, 46)], 41) := by decide +kernel
theorem dX2_kindAt_100 : decode cX2_kindAt 100 = .ok (.bipush 6, 2) := by decide +kernel
theorem dX2_kindAt_102 : decode cX2_kindAt 102 = .ok (.ireturn, 1) := by decide +kernel
theorem dX2_kindAt_103 : decode cX2_kindAt 103 = .ok (.iconst 3, 1) := by decide +kernel
theorem dX2_kindAt_104 : decode cX2_kindAt 104 = .ok (.ireturn, 1) := by decide +kernel
theorem dX2_kindAt_105 : decode cX2_kindAt 105 = .ok (.iconst 4, 1) := by decide +kernel
theorem dX2_kindAt_106 : decode cX2_kindAt 106 = .ok (.ireturn, 1) := by decide +kernel
theorem dX2_kindAt_107 : decode cX2_kindAt 107 = .ok (.iconst 5, 1) := by decide +kernel
theorem dX2_kindAt_108 : decode cX2_kindAt 108 = .ok (.ireturn, 1) := by decide +kernel
theorem dX2_nextToken_0 : decode cX2_nextToken 0 = .ok (.aload_n 0, 1) := by decide +kernel
theorem dX2_nextToken_1 : decode cX2_nextToken 1 = .ok (.aload_n 0, 1) := by decide +kernel
theorem dX2_nextToken_2 : decode cX2_nextToken 2 = .ok (.getfield 26, 3) := by decide +kernel
theorem dX2_nextToken_5 : decode cX2_nextToken 5 = .ok (.putfield 29, 3) := by decide +kernel
theorem dX2_nextToken_8 : decode cX2_nextToken 8 = .ok (.aload_n 0, 1) := by decide +kernel
theorem dX2_nextToken_9 : decode cX2_nextToken 9 = .ok (.getfield 29, 3) := by decide +kernel
theorem dX2_nextToken_12 : decode cX2_nextToken 12 = .ok (.aload_n 0, 1) := by decide +kernel
theorem dX2_nextToken_13 : decode cX2_nextToken 13 = .ok (.getfield 23, 3) := by decide +kernel
theorem dX2_nextToken_16 : decode cX2_nextToken 16 = .ok (.if_icmp .ge 29, 3) := by decide +kernel
theorem dX2_nextToken_19 : decode cX2_nextToken 19 = .ok (.aload_n 0, 1) := by decide +kernel
theorem dX2_nextToken_20 : decode cX2_nextToken 20 = .ok (.aload_n 0, 1) := by decide +kernel
theorem dX2_nextToken_21 : decode cX2_nextToken 21 = .ok (.getfield 29, 3) := by decide +kernel
theorem dX2_nextToken_24 : decode cX2_nextToken 24 = .ok (.invokevirtual 32, 3) := by decide +kernel
theorem dX2_nextToken_27 : decode cX2_nextToken 27 = .ok (.bipush 6, 2) := by decide +kernel
theorem dX2_nextToken_29 : decode cX2_nextToken 29 = .ok (.if_icmp .ne 16, 3) := by decide +kernel
theorem dX2_nextToken_32 : decode cX2_nextToken 32 = .ok (.aload_n 0, 1) := by decide +kernel
theorem dX2_nextToken_33 : decode cX2_nextToken 33 = .ok (.dup, 1) := by decide +kernel
theorem dX2_nextToken_34 : decode cX2_nextToken 34 = .ok (.getfield 29, 3) := by decide +kernel
theorem dX2_nextToken_37 : decode cX2_nextToken 37 = .ok (.iconst 1, 1) := by decide +kernel
theorem dX2_nextToken_38 : decode cX2_nextToken 38 = .ok (.iadd, 1) := by decide +kernel
theorem dX2_nextToken_39 : decode cX2_nextToken 39 = .ok (.putfield 29, 3) := by decide +kernel
theorem dX2_nextToken_42 : decode cX2_nextToken 42 = .ok (.goto (-34), 3) := by decide +kernel
theorem dX2_nextToken_45 : decode cX2_nextToken 45 = .ok (.aload_n 0, 1) := by decide +kernel
theorem dX2_nextToken_46 : decode cX2_nextToken 46 = .ok (.aload_n 0, 1) := by decide +kernel
theorem dX2_nextToken_47 : decode cX2_nextToken 47 = .ok (.aload_n 0, 1) := by decide +kernel
theorem dX2_nextToken_48 : decode cX2_nextToken 48 = .ok (.getfield 29, 3) := by decide +kernel
theorem dX2_nextToken_51 : decode cX2_nextToken 51 = .ok (.invokevirtual 32, 3) := by decide +kernel
theorem dX2_nextToken_54 : decode cX2_nextToken 54 = .ok (.putfield 36, 3) := by decide +kernel
theorem dX2_nextToken_57 : decode cX2_nextToken 57 = .ok (.aload_n 0, 1) := by decide +kernel
theorem dX2_nextToken_58 : decode cX2_nextToken 58 = .ok (.iconst 0, 1) := by decide +kernel
theorem dX2_nextToken_59 : decode cX2_nextToken 59 = .ok (.putfield 39, 3) := by decide +kernel
theorem dX2_nextToken_62 : decode cX2_nextToken 62 = .ok (.aload_n 0, 1) := by decide +kernel
theorem dX2_nextToken_63 : decode cX2_nextToken 63 = .ok (.aload_n 0, 1) := by decide +kernel
theorem dX2_nextToken_64 : decode cX2_nextToken 64 = .ok (.getfield 29, 3) := by decide +kernel
theorem dX2_nextToken_67 : decode cX2_nextToken 67 = .ok (.putfield 26, 3) := by decide +kernel
theorem dX2_nextToken_70 : decode cX2_nextToken 70 = .ok (.aload_n 0, 1) := by decide +kernel
theorem dX2_nextToken_71 : decode cX2_nextToken 71 = .ok (.getfield 36, 3) := by decide +kernel
theorem dX2_nextToken_74 : decode cX2_nextToken 74 = .ok (.iconst 1, 1) := by decide +kernel
theorem dX2_nextToken_75 : decode cX2_nextToken 75 = .ok (.if_icmp .eq 11, 3) := by decide +kernel
theorem dX2_nextToken_78 : decode cX2_nextToken 78 = .ok (.aload_n 0, 1) := by decide +kernel
theorem dX2_nextToken_79 : decode cX2_nextToken 79 = .ok (.getfield 36, 3) := by decide +kernel
theorem dX2_nextToken_82 : decode cX2_nextToken 82 = .ok (.iconst 2, 1) := by decide +kernel
theorem dX2_nextToken_83 : decode cX2_nextToken 83 = .ok (.if_icmp .ne 96, 3) := by decide +kernel
theorem dX2_nextToken_86 : decode cX2_nextToken 86 = .ok (.aload_n 0, 1) := by decide +kernel
theorem dX2_nextToken_87 : decode cX2_nextToken 87 = .ok (.getfield 26, 3) := by decide +kernel
theorem dX2_nextToken_90 : decode cX2_nextToken 90 = .ok (.aload_n 0, 1) := by decide +kernel
theorem dX2_nextToken_91 : decode cX2_nextToken 91 = .ok (.getfield 23, 3) := by decide +kernel
theorem dX2_nextToken_94 : decode cX2_nextToken 94 = .ok (.if_icmp .ge 102, 3) := by decide +kernel
theorem dX2_nextToken_97 : decode cX2_nextToken 97 = .ok (.aload_n 0, 1) := by decide +kernel
theorem dX2_nextToken_98 : decode cX2_nextToken 98 = .ok (.getfield 26, 3) := by decide +kernel
theorem dX2_nextToken_101 : decode cX2_nextToken 101 = .ok (.aload_n 0, 1) := by decide +kernel
theorem dX2_nextToken_102 : decode cX2_nextToken 102 = .ok (.getfield 9, 3) := by decide +kernel
theorem dX2_nextToken_105 : decode cX2_nextToken 105 = .ok (.arraylength, 1) := by decide +kernel
theorem dX2_nextToken_106 : decode cX2_nextToken 106 = .ok (.if_icmp .ge 90, 3) := by decide +kernel
theorem dX2_nextToken_109 : decode cX2_nextToken 109 = .ok (.aload_n 0, 1) := by decide +kernel
theorem dX2_nextToken_110 : decode cX2_nextToken 110 = .ok (.aload_n 0, 1) := by decide +kernel
theorem dX2_nextToken_111 : decode cX2_nextToken 111 = .ok (.getfield 26, 3) := by decide +kernel
theorem dX2_nextToken_114 : decode cX2_nextToken 114 = .ok (.invokevirtual 32, 3) := by decide +kernel
theorem dX2_nextToken_117 : decode cX2_nextToken 117 = .ok (.aload_n 0, 1) := by decide +kernel
theorem dX2_nextToken_118 : decode cX2_nextToken 118 = .ok (.getfield 36, 3) := by decide +kernel
theorem dX2_nextToken_121 : decode cX2_nextToken 121 = .ok (.if_icmp .ne 75, 3) := by decide +kernel
theorem dX2_nextToken_124 : decode cX2_nextToken 124 = .ok (.aload_n 0, 1) := by decide +kernel
theorem dX2_nextToken_125 : decode cX2_nextToken 125 = .ok (.aload_n 0, 1) := by decide +kernel
theorem dX2_nextToken_126 : decode cX2_nextToken 126 = .ok (.getfield 36, 3) := by decide +kernel
theorem dX2_nextToken_129 : decode cX2_nextToken 129 = .ok (.iconst 2, 1) := by decide +kernel
theorem dX2_nextToken_130 : decode cX2_nextToken 130 = .ok (.if_icmp .ne 32, 3) := by decide +kernel
theorem dX2_nextToken_133 : decode cX2_nextToken 133 = .ok (.sipush 1000, 3) := by decide +kernel
theorem dX2_nextToken_136 : decode cX2_nextToken 136 = .ok (.aload_n 0, 1) := by decide +kernel
theorem dX2_nextToken_137 : decode cX2_nextToken 137 = .ok (.getfield 39, 3) := by decide +kernel
theorem dX2_nextToken_140 : decode cX2_nextToken 140 = .ok (.bipush 10, 2) := by decide +kernel
theorem dX2_nextToken_142 : decode cX2_nextToken 142 = .ok (.imul, 1) := by decide +kernel
theorem dX2_nextToken_143 : decode cX2_nextToken 143 = .ok (.aload_n 0, 1) := by decide +kernel
theorem dX2_nextToken_144 : decode cX2_nextToken 144 = .ok (.getfield 9, 3) := by decide +kernel
theorem dX2_nextToken_147 : decode cX2_nextToken 147 = .ok (.aload_n 0, 1) := by decide +kernel
theorem dX2_nextToken_148 : decode cX2_nextToken 148 = .ok (.getfield 26, 3) := by decide +kernel
theorem dX2_nextToken_151 : decode cX2_nextToken 151 = .ok (.baload, 1) := by decide +kernel
theorem dX2_nextToken_152 : decode cX2_nextToken 152 = .ok (.iadd, 1) := by decide +kernel
theorem dX2_nextToken_153 : decode cX2_nextToken 153 = .ok (.bipush 48, 2) := by decide +kernel
theorem dX2_nextToken_155 : decode cX2_nextToken 155 = .ok (.isub, 1) := by decide +kernel
theorem dX2_nextToken_156 : decode cX2_nextToken 156 = .ok (.invokestatic 42, 3) := by decide +kernel
theorem dX2_nextToken_159 : decode cX2_nextToken 159 = .ok (.goto 4, 3) := by decide +kernel
theorem dX2_nextToken_162 : decode cX2_nextToken 162 = .ok (.iconst 0, 1) := by decide +kernel
theorem dX2_nextToken_163 : decode cX2_nextToken 163 = .ok (.putfield 39, 3) := by decide +kernel
theorem dX2_nextToken_166 : decode cX2_nextToken 166 = .ok (.aload_n 0, 1) := by decide +kernel
theorem dX2_nextToken_167 : decode cX2_nextToken 167 = .ok (.dup, 1) := by decide +kernel
theorem dX2_nextToken_168 : decode cX2_nextToken 168 = .ok (.getfield 26, 3) := by decide +kernel
theorem dX2_nextToken_171 : decode cX2_nextToken 171 = .ok (.iconst 1, 1) := by decide +kernel
theorem dX2_nextToken_172 : decode cX2_nextToken 172 = .ok (.iadd, 1) := by decide +kernel
theorem dX2_nextToken_173 : decode cX2_nextToken 173 = .ok (.putfield 26, 3) := by decide +kernel
theorem dX2_nextToken_176 : decode cX2_nextToken 176 = .ok (.goto (-90), 3) := by decide +kernel
theorem dX2_nextToken_179 : decode cX2_nextToken 179 = .ok (.aload_n 0, 1) := by decide +kernel
theorem dX2_nextToken_180 : decode cX2_nextToken 180 = .ok (.getfield 36, 3) := by decide +kernel
theorem dX2_nextToken_183 : decode cX2_nextToken 183 = .ok (.ifCond .eq 13, 3) := by decide +kernel
theorem dX2_nextToken_186 : decode cX2_nextToken 186 = .ok (.aload_n 0, 1) := by decide +kernel
theorem dX2_nextToken_187 : decode cX2_nextToken 187 = .ok (.dup, 1) := by decide +kernel
theorem dX2_nextToken_188 : decode cX2_nextToken 188 = .ok (.getfield 26, 3) := by decide +kernel
theorem dX2_nextToken_191 : decode cX2_nextToken 191 = .ok (.iconst 1, 1) := by decide +kernel
theorem dX2_nextToken_192 : decode cX2_nextToken 192 = .ok (.iadd, 1) := by decide +kernel
theorem dX2_nextToken_193 : decode cX2_nextToken 193 = .ok (.putfield 26, 3) := by decide +kernel
theorem dX2_nextToken_196 : decode cX2_nextToken 196 = .ok (.return_, 1) := by decide +kernel
theorem dX2_isWord_0 : decode cX2_isWord 0 = .ok (.aload_n 0, 1) := by decide +kernel
theorem dX2_isWord_1 : decode cX2_isWord 1 = .ok (.getfield 36, 3) := by decide +kernel
theorem dX2_isWord_4 : decode cX2_isWord 4 = .ok (.iconst 1, 1) := by decide +kernel
theorem dX2_isWord_5 : decode cX2_isWord 5 = .ok (.if_icmp .ne 19, 3) := by decide +kernel
theorem dX2_isWord_8 : decode cX2_isWord 8 = .ok (.aload_n 0, 1) := by decide +kernel
theorem dX2_isWord_9 : decode cX2_isWord 9 = .ok (.getfield 26, 3) := by decide +kernel
theorem dX2_isWord_12 : decode cX2_isWord 12 = .ok (.aload_n 0, 1) := by decide +kernel
theorem dX2_isWord_13 : decode cX2_isWord 13 = .ok (.getfield 29, 3) := by decide +kernel
theorem dX2_isWord_16 : decode cX2_isWord 16 = .ok (.isub, 1) := by decide +kernel
theorem dX2_isWord_17 : decode cX2_isWord 17 = .ok (.aload_n 1, 1) := by decide +kernel
theorem dX2_isWord_18 : decode cX2_isWord 18 = .ok (.invokevirtual 48, 3) := by decide +kernel
theorem dX2_isWord_21 : decode cX2_isWord 21 = .ok (.if_icmp .eq 5, 3) := by decide +kernel
theorem dX2_isWord_24 : decode cX2_isWord 24 = .ok (.iconst 0, 1) := by decide +kernel
theorem dX2_isWord_25 : decode cX2_isWord 25 = .ok (.ireturn, 1) := by decide +kernel
theorem dX2_isWord_26 : decode cX2_isWord 26 = .ok (.iconst 0, 1) := by decide +kernel
theorem dX2_isWord_27 : decode cX2_isWord 27 = .ok (.istore_n 2, 1) := by decide +kernel
theorem dX2_isWord_28 : decode cX2_isWord 28 = .ok (.iload_n 2, 1) := by decide +kernel
theorem dX2_isWord_29 : decode cX2_isWord 29 = .ok (.aload_n 1, 1) := by decide +kernel
theorem dX2_isWord_30 : decode cX2_isWord 30 = .ok (.invokevirtual 48, 3) := by decide +kernel
theorem dX2_isWord_33 : decode cX2_isWord 33 = .ok (.if_icmp .ge 45, 3) := by decide +kernel
theorem dX2_isWord_36 : decode cX2_isWord 36 = .ok (.aload_n 0, 1) := by decide +kernel
theorem dX2_isWord_37 : decode cX2_isWord 37 = .ok (.getfield 29, 3) := by decide +kernel
theorem dX2_isWord_40 : decode cX2_isWord 40 = .ok (.iload_n 2, 1) := by decide +kernel
theorem dX2_isWord_41 : decode cX2_isWord 41 = .ok (.iadd, 1) := by decide +kernel
theorem dX2_isWord_42 : decode cX2_isWord 42 = .ok (.istore_n 3, 1) := by decide +kernel
theorem dX2_isWord_43 : decode cX2_isWord 43 = .ok (.iload_n 3, 1) := by decide +kernel
theorem dX2_isWord_44 : decode cX2_isWord 44 = .ok (.ifCond .lt 26, 3) := by decide +kernel
theorem dX2_isWord_47 : decode cX2_isWord 47 = .ok (.iload_n 3, 1) := by decide +kernel
theorem dX2_isWord_48 : decode cX2_isWord 48 = .ok (.aload_n 0, 1) := by decide +kernel
theorem dX2_isWord_49 : decode cX2_isWord 49 = .ok (.getfield 9, 3) := by decide +kernel
theorem dX2_isWord_52 : decode cX2_isWord 52 = .ok (.arraylength, 1) := by decide +kernel
theorem dX2_isWord_53 : decode cX2_isWord 53 = .ok (.if_icmp .ge 17, 3) := by decide +kernel
theorem dX2_isWord_56 : decode cX2_isWord 56 = .ok (.aload_n 0, 1) := by decide +kernel
theorem dX2_isWord_57 : decode cX2_isWord 57 = .ok (.getfield 9, 3) := by decide +kernel
theorem dX2_isWord_60 : decode cX2_isWord 60 = .ok (.iload_n 3, 1) := by decide +kernel
theorem dX2_isWord_61 : decode cX2_isWord 61 = .ok (.baload, 1) := by decide +kernel
theorem dX2_isWord_62 : decode cX2_isWord 62 = .ok (.aload_n 1, 1) := by decide +kernel
theorem dX2_isWord_63 : decode cX2_isWord 63 = .ok (.iload_n 2, 1) := by decide +kernel
theorem dX2_isWord_64 : decode cX2_isWord 64 = .ok (.invokevirtual 53, 3) := by decide +kernel
theorem dX2_isWord_67 : decode cX2_isWord 67 = .ok (.if_icmp .eq 5, 3) := by decide +kernel
theorem dX2_isWord_70 : decode cX2_isWord 70 = .ok (.iconst 0, 1) := by decide +kernel
theorem dX2_isWord_71 : decode cX2_isWord 71 = .ok (.ireturn, 1) := by decide +kernel
theorem dX2_isWord_72 : decode cX2_isWord 72 = .ok (.iinc 2 1, 3) := by decide +kernel
theorem dX2_isWord_75 : decode cX2_isWord 75 = .ok (.goto (-47), 3) := by decide +kernel
theorem dX2_isWord_78 : decode cX2_isWord 78 = .ok (.iconst 1, 1) := by decide +kernel
theorem dX2_isWord_79 : decode cX2_isWord 79 = .ok (.ireturn, 1) := by decide +kernel
theorem dX2_beginText_0 : decode cX2_beginText 0 = .ok (.aload_n 0, 1) := by decide +kernel
theorem dX2_beginText_1 : decode cX2_beginText 1 = .ok (.iconst 0, 1) := by decide +kernel
theorem dX2_beginText_2 : decode cX2_beginText 2 = .ok (.putfield 57, 3) := by decide +kernel
theorem dX2_beginText_5 : decode cX2_beginText 5 = .ok (.aload_n 0, 1) := by decide +kernel
theorem dX2_beginText_6 : decode cX2_beginText 6 = .ok (.iconst (-1), 1) := by decide +kernel
theorem dX2_beginText_7 : decode cX2_beginText 7 = .ok (.putfield 19, 3) := by decide +kernel
theorem dX2_beginText_10 : decode cX2_beginText 10 = .ok (.aload_n 0, 1) := by decide +kernel
theorem dX2_beginText_11 : decode cX2_beginText 11 = .ok (.iconst 0, 1) := by decide +kernel
theorem dX2_beginText_12 : decode cX2_beginText 12 = .ok (.putfield 26, 3) := by decide +kernel
theorem dX2_beginText_15 : decode cX2_beginText 15 = .ok (.aload_n 0, 1) := by decide +kernel
theorem dX2_beginText_16 : decode cX2_beginText 16 = .ok (.iconst 0, 1) := by decide +kernel
theorem dX2_beginText_17 : decode cX2_beginText 17 = .ok (.putfield 60, 3) := by decide +kernel
theorem dX2_beginText_20 : decode cX2_beginText 20 = .ok (.aload_n 0, 1) := by decide +kernel
theorem dX2_beginText_21 : decode cX2_beginText 21 = .ok (.iconst 0, 1) := by decide +kernel
theorem dX2_beginText_22 : decode cX2_beginText 22 = .ok (.putfield 63, 3) := by decide +kernel
theorem dX2_beginText_25 : decode cX2_beginText 25 = .ok (.aload_n 0, 1) := by decide +kernel
theorem dX2_beginText_26 : decode cX2_beginText 26 = .ok (.iconst 0, 1) := by decide +kernel
theorem dX2_beginText_27 : decode cX2_beginText 27 = .ok (.putfield 66, 3) := by decide +kernel
theorem dX2_beginText_30 : decode cX2_beginText 30 = .ok (.aload_n 0, 1) := by decide +kernel
theorem dX2_beginText_31 : decode cX2_beginText 31 = .ok (.invokevirtual 69, 3) := by decide +kernel
theorem dX2_beginText_34 : decode cX2_beginText 34 = .ok (.return_, 1) := by decide +kernel
theorem dX2_fail_0 : decode cX2_fail 0 = .ok (.aload_n 0, 1) := by decide +kernel
theorem dX2_fail_1 : decode cX2_fail 1 = .ok (.iload_n 1, 1) := by decide +kernel
theorem dX2_fail_2 : decode cX2_fail 2 = .ok (.putfield 57, 3) := by decide +kernel
theorem dX2_fail_5 : decode cX2_fail 5 = .ok (.aload_n 0, 1) := by decide +kernel
theorem dX2_fail_6 : decode cX2_fail 6 = .ok (.aload_n 0, 1) := by decide +kernel
theorem dX2_fail_7 : decode cX2_fail 7 = .ok (.getfield 29, 3) := by decide +kernel
theorem dX2_fail_10 : decode cX2_fail 10 = .ok (.putfield 19, 3) := by decide +kernel
theorem dX2_fail_13 : decode cX2_fail 13 = .ok (.iconst 0, 1) := by decide +kernel
theorem dX2_fail_14 : decode cX2_fail 14 = .ok (.ireturn, 1) := by decide +kernel
theorem dX2_readSemicolon_0 : decode cX2_readSemicolon 0 = .ok (.aload_n 0, 1) := by decide +kernel
theorem dX2_readSemicolon_1 : decode cX2_readSemicolon 1 = .ok (.getfield 36, 3) := by decide +kernel
theorem dX2_readSemicolon_4 : decode cX2_readSemicolon 4 = .ok (.iconst 4, 1) := by decide +kernel
theorem dX2_readSemicolon_5 : decode cX2_readSemicolon 5 = .ok (.if_icmp .eq 9, 3) := by decide +kernel
theorem dX2_readSemicolon_8 : decode cX2_readSemicolon 8 = .ok (.aload_n 0, 1) := by decide +kernel
theorem dX2_readSemicolon_9 : decode cX2_readSemicolon 9 = .ok (.iconst 1, 1) := by decide +kernel
theorem dX2_readSemicolon_10 : decode cX2_readSemicolon 10 = .ok (.invokevirtual 72, 3) := by decide +kernel
theorem dX2_readSemicolon_13 : decode cX2_readSemicolon 13 = .ok (.ireturn, 1) := by decide +kernel
theorem dX2_readSemicolon_14 : decode cX2_readSemicolon 14 = .ok (.aload_n 0, 1) := by decide +kernel
theorem dX2_readSemicolon_15 : decode cX2_readSemicolon 15 = .ok (.invokevirtual 69, 3) := by decide +kernel
theorem dX2_readSemicolon_18 : decode cX2_readSemicolon 18 = .ok (.iconst 1, 1) := by decide +kernel
theorem dX2_readSemicolon_19 : decode cX2_readSemicolon 19 = .ok (.ireturn, 1) := by decide +kernel
theorem dX2_readNumber_0 : decode cX2_readNumber 0 = .ok (.aload_n 0, 1) := by decide +kernel
theorem dX2_readNumber_1 : decode cX2_readNumber 1 = .ok (.getfield 36, 3) := by decide +kernel
theorem dX2_readNumber_4 : decode cX2_readNumber 4 = .ok (.iconst 2, 1) := by decide +kernel
theorem dX2_readNumber_5 : decode cX2_readNumber 5 = .ok (.if_icmp .eq 9, 3) := by decide +kernel
theorem dX2_readNumber_8 : decode cX2_readNumber 8 = .ok (.aload_n 0, 1) := by decide +kernel
theorem dX2_readNumber_9 : decode cX2_readNumber 9 = .ok (.iconst 1, 1) := by decide +kernel
theorem dX2_readNumber_10 : decode cX2_readNumber 10 = .ok (.invokevirtual 72, 3) := by decide +kernel
theorem dX2_readNumber_13 : decode cX2_readNumber 13 = .ok (.ireturn, 1) := by decide +kernel
theorem dX2_readNumber_14 : decode cX2_readNumber 14 = .ok (.aload_n 0, 1) := by decide +kernel
theorem dX2_readNumber_15 : decode cX2_readNumber 15 = .ok (.getfield 39, 3) := by decide +kernel
theorem dX2_readNumber_18 : decode cX2_readNumber 18 = .ok (.iload_n 1, 1) := by decide +kernel
theorem dX2_readNumber_19 : decode cX2_readNumber 19 = .ok (.if_icmp .lt 11, 3) := by decide +kernel
theorem dX2_readNumber_22 : decode cX2_readNumber 22 = .ok (.aload_n 0, 1) := by decide +kernel
theorem dX2_readNumber_23 : decode cX2_readNumber 23 = .ok (.getfield 39, 3) := by decide +kernel
theorem dX2_readNumber_26 : decode cX2_readNumber 26 = .ok (.iload_n 2, 1) := by decide +kernel
theorem dX2_readNumber_27 : decode cX2_readNumber 27 = .ok (.if_icmp .le 9, 3) := by decide +kernel
theorem dX2_readNumber_30 : decode cX2_readNumber 30 = .ok (.aload_n 0, 1) := by decide +kernel
theorem dX2_readNumber_31 : decode cX2_readNumber 31 = .ok (.iconst 2, 1) := by decide +kernel
theorem dX2_readNumber_32 : decode cX2_readNumber 32 = .ok (.invokevirtual 72, 3) := by decide +kernel
theorem dX2_readNumber_35 : decode cX2_readNumber 35 = .ok (.ireturn, 1) := by decide +kernel
theorem dX2_readNumber_36 : decode cX2_readNumber 36 = .ok (.aload_n 0, 1) := by decide +kernel
theorem dX2_readNumber_37 : decode cX2_readNumber 37 = .ok (.aload_n 0, 1) := by decide +kernel
theorem dX2_readNumber_38 : decode cX2_readNumber 38 = .ok (.getfield 39, 3) := by decide +kernel
theorem dX2_readNumber_41 : decode cX2_readNumber 41 = .ok (.putfield 76, 3) := by decide +kernel
theorem dX2_readNumber_44 : decode cX2_readNumber 44 = .ok (.aload_n 0, 1) := by decide +kernel
theorem dX2_readNumber_45 : decode cX2_readNumber 45 = .ok (.invokevirtual 69, 3) := by decide +kernel
theorem dX2_readNumber_48 : decode cX2_readNumber 48 = .ok (.iconst 1, 1) := by decide +kernel
theorem dX2_readNumber_49 : decode cX2_readNumber 49 = .ok (.ireturn, 1) := by decide +kernel
theorem dX2_readInteger_0 : decode cX2_readInteger 0 = .ok (.aload_n 0, 1) := by decide +kernel
theorem dX2_readInteger_1 : decode cX2_readInteger 1 = .ok (.getfield 36, 3) := by decide +kernel
theorem dX2_readInteger_4 : decode cX2_readInteger 4 = .ok (.iconst 3, 1) := by decide +kernel
theorem dX2_readInteger_5 : decode cX2_readInteger 5 = .ok (.if_icmp .ne 7, 3) := by decide +kernel
theorem dX2_readInteger_8 : decode cX2_readInteger 8 = .ok (.iconst 1, 1) := by decide +kernel
theorem dX2_readInteger_9 : decode cX2_readInteger 9 = .ok (.goto 4, 3) := by decide +kernel
theorem dX2_readInteger_12 : decode cX2_readInteger 12 = .ok (.iconst 0, 1) := by decide +kernel
theorem dX2_readInteger_13 : decode cX2_readInteger 13 = .ok (.istore_n 3, 1) := by decide +kernel
theorem dX2_readInteger_14 : decode cX2_readInteger 14 = .ok (.iload_n 3, 1) := by decide +kernel
theorem dX2_readInteger_15 : decode cX2_readInteger 15 = .ok (.ifCond .eq 7, 3) := by decide +kernel
theorem dX2_readInteger_18 : decode cX2_readInteger 18 = .ok (.aload_n 0, 1) := by decide +kernel
theorem dX2_readInteger_19 : decode cX2_readInteger 19 = .ok (.invokevirtual 69, 3) := by decide +kernel
theorem dX2_readInteger_22 : decode cX2_readInteger 22 = .ok (.aload_n 0, 1) := by decide +kernel
theorem dX2_readInteger_23 : decode cX2_readInteger 23 = .ok (.getfield 36, 3) := by decide +kernel
theorem dX2_readInteger_26 : decode cX2_readInteger 26 = .ok (.iconst 2, 1) := by decide +kernel
theorem dX2_readInteger_27 : decode cX2_readInteger 27 = .ok (.if_icmp .eq 9, 3) := by decide +kernel
theorem dX2_readInteger_30 : decode cX2_readInteger 30 = .ok (.aload_n 0, 1) := by decide +kernel
theorem dX2_readInteger_31 : decode cX2_readInteger 31 = .ok (.iconst 1, 1) := by decide +kernel
theorem dX2_readInteger_32 : decode cX2_readInteger 32 = .ok (.invokevirtual 72, 3) := by decide +kernel
theorem dX2_readInteger_35 : decode cX2_readInteger 35 = .ok (.ireturn, 1) := by decide +kernel
theorem dX2_readInteger_36 : decode cX2_readInteger 36 = .ok (.iload_n 3, 1) := by decide +kernel
theorem dX2_readInteger_37 : decode cX2_readInteger 37 = .ok (.ifCond .eq 11, 3) := by decide +kernel
theorem dX2_readInteger_40 : decode cX2_readInteger 40 = .ok (.aload_n 0, 1) := by decide +kernel
theorem dX2_readInteger_41 : decode cX2_readInteger 41 = .ok (.getfield 39, 3) := by decide +kernel
theorem dX2_readInteger_44 : decode cX2_readInteger 44 = .ok (.ineg, 1) := by decide +kernel
theorem dX2_readInteger_45 : decode cX2_readInteger 45 = .ok (.goto 7, 3) := by decide +kernel
theorem dX2_readInteger_48 : decode cX2_readInteger 48 = .ok (.aload_n 0, 1) := by decide +kernel
theorem dX2_readInteger_49 : decode cX2_readInteger 49 = .ok (.getfield 39, 3) := by decide +kernel
theorem dX2_readInteger_52 : decode cX2_readInteger 52 = .ok (.istore 4, 2) := by decide +kernel
theorem dX2_readInteger_54 : decode cX2_readInteger 54 = .ok (.iload 4, 2) := by decide +kernel
theorem dX2_readInteger_56 : decode cX2_readInteger 56 = .ok (.iload_n 1, 1) := by decide +kernel
theorem dX2_readInteger_57 : decode cX2_readInteger 57 = .ok (.if_icmp .lt 9, 3) := by decide +kernel
theorem dX2_readInteger_60 : decode cX2_readInteger 60 = .ok (.iload 4, 2) := by decide +kernel
theorem dX2_readInteger_62 : decode cX2_readInteger 62 = .ok (.iload_n 2, 1) := by decide +kernel
theorem dX2_readInteger_63 : decode cX2_readInteger 63 = .ok (.if_icmp .le 9, 3) := by decide +kernel
theorem dX2_readInteger_66 : decode cX2_readInteger 66 = .ok (.aload_n 0, 1) := by decide +kernel
theorem dX2_readInteger_67 : decode cX2_readInteger 67 = .ok (.iconst 2, 1) := by decide +kernel
theorem dX2_readInteger_68 : decode cX2_readInteger 68 = .ok (.invokevirtual 72, 3) := by decide +kernel
theorem dX2_readInteger_71 : decode cX2_readInteger 71 = .ok (.ireturn, 1) := by decide +kernel
theorem dX2_readInteger_72 : decode cX2_readInteger 72 = .ok (.aload_n 0, 1) := by decide +kernel
theorem dX2_readInteger_73 : decode cX2_readInteger 73 = .ok (.iload 4, 2) := by decide +kernel
theorem dX2_readInteger_75 : decode cX2_readInteger 75 = .ok (.putfield 76, 3) := by decide +kernel
theorem dX2_readInteger_78 : decode cX2_readInteger 78 = .ok (.aload_n 0, 1) := by decide +kernel
theorem dX2_readInteger_79 : decode cX2_readInteger 79 = .ok (.invokevirtual 69, 3) := by decide +kernel
theorem dX2_readInteger_82 : decode cX2_readInteger 82 = .ok (.iconst 1, 1) := by decide +kernel
theorem dX2_readInteger_83 : decode cX2_readInteger 83 = .ok (.ireturn, 1) := by decide +kernel
theorem dX2_readSetup_0 : decode cX2_readSetup 0 = .ok (.aload_n 0, 1) := by decide +kernel
theorem dX2_readSetup_1 : decode cX2_readSetup 1 = .ok (.invokevirtual 79, 3) := by decide +kernel
theorem dX2_readSetup_4 : decode cX2_readSetup 4 = .ok (.aload_n 0, 1) := by decide +kernel
theorem dX2_readSetup_5 : decode cX2_readSetup 5 = .ok (.getfield 36, 3) := by decide +kernel
theorem dX2_readSetup_8 : decode cX2_readSetup 8 = .ok (.ifCond .eq 43, 3) := by decide +kernel
theorem dX2_readSetup_11 : decode cX2_readSetup 11 = .ok (.aload_n 0, 1) := by decide +kernel
theorem dX2_readSetup_12 : decode cX2_readSetup 12 = .ok (.getfield 60, 3) := by decide +kernel
theorem dX2_readSetup_15 : decode cX2_readSetup 15 = .ok (.sipush 600, 3) := by decide +kernel
theorem dX2_readSetup_18 : decode cX2_readSetup 18 = .ok (.if_icmp .ge 33, 3) := by decide +kernel
theorem dX2_readSetup_21 : decode cX2_readSetup 21 = .ok (.aload_n 0, 1) := by decide +kernel
theorem dX2_readSetup_22 : decode cX2_readSetup 22 = .ok (.aload_n 1, 1) := by decide +kernel
theorem dX2_readSetup_23 : decode cX2_readSetup 23 = .ok (.invokevirtual 82, 3) := by decide +kernel
theorem dX2_readSetup_26 : decode cX2_readSetup 26 = .ok (.ifCond .eq 10, 3) := by decide +kernel
theorem dX2_readSetup_29 : decode cX2_readSetup 29 = .ok (.aload_n 0, 1) := by decide +kernel
theorem dX2_readSetup_30 : decode cX2_readSetup 30 = .ok (.invokevirtual 86, 3) := by decide +kernel
theorem dX2_readSetup_33 : decode cX2_readSetup 33 = .ok (.ifCond .ne 5, 3) := by decide +kernel
theorem dX2_readSetup_36 : decode cX2_readSetup 36 = .ok (.iconst 0, 1) := by decide +kernel
theorem dX2_readSetup_37 : decode cX2_readSetup 37 = .ok (.ireturn, 1) := by decide +kernel
theorem dX2_readSetup_38 : decode cX2_readSetup 38 = .ok (.aload_n 0, 1) := by decide +kernel
theorem dX2_readSetup_39 : decode cX2_readSetup 39 = .ok (.dup, 1) := by decide +kernel
theorem dX2_readSetup_40 : decode cX2_readSetup 40 = .ok (.getfield 60, 3) := by decide +kernel
theorem dX2_readSetup_43 : decode cX2_readSetup 43 = .ok (.iconst 1, 1) := by decide +kernel
theorem dX2_readSetup_44 : decode cX2_readSetup 44 = .ok (.iadd, 1) := by decide +kernel
theorem dX2_readSetup_45 : decode cX2_readSetup 45 = .ok (.putfield 60, 3) := by decide +kernel
theorem dX2_readSetup_48 : decode cX2_readSetup 48 = .ok (.goto (-44), 3) := by decide +kernel
theorem dX2_readSetup_51 : decode cX2_readSetup 51 = .ok (.iconst 1, 1) := by decide +kernel
theorem dX2_readSetup_52 : decode cX2_readSetup 52 = .ok (.ireturn, 1) := by decide +kernel
theorem dX2_readStatement_0 : decode cX2_readStatement 0 = .ok (.aload_n 0, 1) := by decide +kernel
theorem dX2_readStatement_1 : decode cX2_readStatement 1 = .ok (.ldc 90, 2) := by decide +kernel
theorem dX2_readStatement_3 : decode cX2_readStatement 3 = .ok (.invokevirtual 91, 3) := by decide +kernel
theorem dX2_readStatement_6 : decode cX2_readStatement 6 = .ok (.ifCond .eq 9, 3) := by decide +kernel
theorem dX2_readStatement_9 : decode cX2_readStatement 9 = .ok (.aload_n 0, 1) := by decide +kernel
theorem dX2_readStatement_10 : decode cX2_readStatement 10 = .ok (.aload_n 1, 1) := by decide +kernel
theorem dX2_readStatement_11 : decode cX2_readStatement 11 = .ok (.invokevirtual 95, 3) := by decide +kernel
theorem dX2_readStatement_14 : decode cX2_readStatement 14 = .ok (.ireturn, 1) := by decide +kernel
theorem dX2_readStatement_15 : decode cX2_readStatement 15 = .ok (.aload_n 0, 1) := by decide +kernel
theorem dX2_readStatement_16 : decode cX2_readStatement 16 = .ok (.invokevirtual 98, 3) := by decide +kernel
theorem dX2_readStatement_19 : decode cX2_readStatement 19 = .ok (.istore_n 2, 1) := by decide +kernel
theorem dX2_readStatement_20 : decode cX2_readStatement 20 = .ok (.iload_n 2, 1) := by decide +kernel
theorem dX2_readStatement_21 : decode cX2_readStatement 21 = .ok (.ifCond .lt 9, 3) := by decide +kernel
theorem dX2_readStatement_24 : decode cX2_readStatement 24 = .ok (.iload_n 2, 1) := by decide +kernel
theorem dX2_readStatement_25 : decode cX2_readStatement 25 = .ok (.bipush 7, 2) := by decide +kernel
theorem dX2_readStatement_27 : decode cX2_readStatement 27 = .ok (.if_icmp .lt 9, 3) := by decide +kernel
theorem dX2_readStatement_30 : decode cX2_readStatement 30 = .ok (.aload_n 0, 1) := by decide +kernel
theorem dX2_readStatement_31 : decode cX2_readStatement 31 = .ok (.iconst 1, 1) := by decide +kernel
theorem dX2_readStatement_32 : decode cX2_readStatement 32 = .ok (.invokevirtual 72, 3) := by decide +kernel
theorem dX2_readStatement_35 : decode cX2_readStatement 35 = .ok (.ireturn, 1) := by decide +kernel
theorem dX2_readStatement_36 : decode cX2_readStatement 36 = .ok (.iload_n 2, 1) := by decide +kernel
theorem dX2_readStatement_37 : decode cX2_readStatement 37 = .ok (.ifCond .ne 14, 3) := by decide +kernel
theorem dX2_readStatement_40 : decode cX2_readStatement 40 = .ok (.aload_n 0, 1) := by decide +kernel
theorem dX2_readStatement_41 : decode cX2_readStatement 41 = .ok (.getfield 66, 3) := by decide +kernel
theorem dX2_readStatement_44 : decode cX2_readStatement 44 = .ok (.ifCond .eq 7, 3) := by decide +kernel
theorem dX2_readStatement_47 : decode cX2_readStatement 47 = .ok (.iconst 1, 1) := by decide +kernel
theorem dX2_readStatement_48 : decode cX2_readStatement 48 = .ok (.goto 4, 3) := by decide +kernel
theorem dX2_readStatement_51 : decode cX2_readStatement 51 = .ok (.iconst 0, 1) := by decide +kernel
theorem dX2_readStatement_52 : decode cX2_readStatement 52 = .ok (.istore_n 3, 1) := by decide +kernel
theorem dX2_readStatement_53 : decode cX2_readStatement 53 = .ok (.iload_n 3, 1) := by decide +kernel
theorem dX2_readStatement_54 : decode cX2_readStatement 54 = .ok (.ifCond .ne 15, 3) := by decide +kernel
theorem dX2_readStatement_57 : decode cX2_readStatement 57 = .ok (.aload_n 0, 1) := by decide +kernel
theorem dX2_readStatement_58 : decode cX2_readStatement 58 = .ok (.getfield 63, 3) := by decide +kernel
theorem dX2_readStatement_61 : decode cX2_readStatement 61 = .ok (.iload_n 2, 1) := by decide +kernel
theorem dX2_readStatement_62 : decode cX2_readStatement 62 = .ok (.ishr, 1) := by decide +kernel
theorem dX2_readStatement_63 : decode cX2_readStatement 63 = .ok (.iconst 1, 1) := by decide +kernel
theorem dX2_readStatement_64 : decode cX2_readStatement 64 = .ok (.iand, 1) := by decide +kernel
theorem dX2_readStatement_65 : decode cX2_readStatement 65 = .ok (.iconst 1, 1) := by decide +kernel
theorem dX2_readStatement_66 : decode cX2_readStatement 66 = .ok (.if_icmp .ne 9, 3) := by decide +kernel
theorem dX2_readStatement_69 : decode cX2_readStatement 69 = .ok (.aload_n 0, 1) := by decide +kernel
theorem dX2_readStatement_70 : decode cX2_readStatement 70 = .ok (.iconst 3, 1) := by decide +kernel
theorem dX2_readStatement_71 : decode cX2_readStatement 71 = .ok (.invokevirtual 72, 3) := by decide +kernel
theorem dX2_readStatement_74 : decode cX2_readStatement 74 = .ok (.ireturn, 1) := by decide +kernel
theorem dX2_readStatement_75 : decode cX2_readStatement 75 = .ok (.aload_n 0, 1) := by decide +kernel
theorem dX2_readStatement_76 : decode cX2_readStatement 76 = .ok (.dup, 1) := by decide +kernel
theorem dX2_readStatement_77 : decode cX2_readStatement 77 = .ok (.getfield 63, 3) := by decide +kernel
theorem dX2_readStatement_80 : decode cX2_readStatement 80 = .ok (.iconst 1, 1) := by decide +kernel
theorem dX2_readStatement_81 : decode cX2_readStatement 81 = .ok (.iload_n 2, 1) := by decide +kernel
theorem dX2_readStatement_82 : decode cX2_readStatement 82 = .ok (.ishl, 1) := by decide +kernel
theorem dX2_readStatement_83 : decode cX2_readStatement 83 = .ok (.ior, 1) := by decide +kernel
theorem dX2_readStatement_84 : decode cX2_readStatement 84 = .ok (.putfield 63, 3) := by decide +kernel
theorem dX2_readStatement_87 : decode cX2_readStatement 87 = .ok (.aload_n 0, 1) := by decide +kernel
theorem dX2_readStatement_88 : decode cX2_readStatement 88 = .ok (.invokevirtual 69, 3) := by decide +kernel
theorem dX2_readStatement_91 : decode cX2_readStatement 91 = .ok (.aload_n 0, 1) := by decide +kernel
theorem dX2_readStatement_92 : decode cX2_readStatement 92 = .ok (.aload_n 1, 1) := by decide +kernel
theorem dX2_readStatement_93 : decode cX2_readStatement 93 = .ok (.iload_n 2, 1) := by decide +kernel
theorem dX2_readStatement_94 : decode cX2_readStatement 94 = .ok (.invokevirtual 101, 3) := by decide +kernel
theorem dX2_readStatement_97 : decode cX2_readStatement 97 = .ok (.ifCond .ne 5, 3) := by decide +kernel
theorem dX2_readStatement_100 : decode cX2_readStatement 100 = .ok (.iconst 0, 1) := by decide +kernel
theorem dX2_readStatement_101 : decode cX2_readStatement 101 = .ok (.ireturn, 1) := by decide +kernel
theorem dX2_readStatement_102 : decode cX2_readStatement 102 = .ok (.iload_n 2, 1) := by decide +kernel
theorem dX2_readStatement_103 : decode cX2_readStatement 103 = .ok (.iconst 4, 1) := by decide +kernel
theorem dX2_readStatement_104 : decode cX2_readStatement 104 = .ok (.if_icmp .ne 12, 3) := by decide +kernel
theorem dX2_readStatement_107 : decode cX2_readStatement 107 = .ok (.aload_n 0, 1) := by decide +kernel
theorem dX2_readStatement_108 : decode cX2_readStatement 108 = .ok (.aload_n 1, 1) := by decide +kernel
theorem dX2_readStatement_109 : decode cX2_readStatement 109 = .ok (.iconst 5, 1) := by decide +kernel
theorem dX2_readStatement_110 : decode cX2_readStatement 110 = .ok (.invokevirtual 101, 3) := by decide +kernel
theorem dX2_readStatement_113 : decode cX2_readStatement 113 = .ok (.ifCond .eq 7, 3) := by decide +kernel
theorem dX2_readStatement_116 : decode cX2_readStatement 116 = .ok (.iconst 1, 1) := by decide +kernel
theorem dX2_readStatement_117 : decode cX2_readStatement 117 = .ok (.goto 4, 3) := by decide +kernel
theorem dX2_readStatement_120 : decode cX2_readStatement 120 = .ok (.iconst 0, 1) := by decide +kernel
theorem dX2_readStatement_121 : decode cX2_readStatement 121 = .ok (.ireturn, 1) := by decide +kernel
theorem dX2_settingOfWord_0 : decode cX2_settingOfWord 0 = .ok (.aload_n 0, 1) := by decide +kernel
theorem dX2_settingOfWord_1 : decode cX2_settingOfWord 1 = .ok (.ldc 105, 2) := by decide +kernel
theorem dX2_settingOfWord_3 : decode cX2_settingOfWord 3 = .ok (.invokevirtual 91, 3) := by decide +kernel
theorem dX2_settingOfWord_6 : decode cX2_settingOfWord 6 = .ok (.ifCond .eq 5, 3) := by decide +kernel
theorem dX2_settingOfWord_9 : decode cX2_settingOfWord 9 = .ok (.iconst 0, 1) := by decide +kernel
theorem dX2_settingOfWord_10 : decode cX2_settingOfWord 10 = .ok (.ireturn, 1) := by decide +kernel
theorem dX2_settingOfWord_11 : decode cX2_settingOfWord 11 = .ok (.aload_n 0, 1) := by decide +kernel
theorem dX2_settingOfWord_12 : decode cX2_settingOfWord 12 = .ok (.ldc 107, 2) := by decide +kernel
theorem dX2_settingOfWord_14 : decode cX2_settingOfWord 14 = .ok (.invokevirtual 91, 3) := by decide +kernel
theorem dX2_settingOfWord_17 : decode cX2_settingOfWord 17 = .ok (.ifCond .eq 5, 3) := by decide +kernel
theorem dX2_settingOfWord_20 : decode cX2_settingOfWord 20 = .ok (.iconst 1, 1) := by decide +kernel
theorem dX2_settingOfWord_21 : decode cX2_settingOfWord 21 = .ok (.ireturn, 1) := by decide +kernel
theorem dX2_settingOfWord_22 : decode cX2_settingOfWord 22 = .ok (.aload_n 0, 1) := by decide +kernel
theorem dX2_settingOfWord_23 : decode cX2_settingOfWord 23 = .ok (.ldc 109, 2) := by decide +kernel
theorem dX2_settingOfWord_25 : decode cX2_settingOfWord 25 = .ok (.invokevirtual 91, 3) := by decide +kernel
theorem dX2_settingOfWord_28 : decode cX2_settingOfWord 28 = .ok (.ifCond .eq 5, 3) := by decide +kernel
theorem dX2_settingOfWord_31 : decode cX2_settingOfWord 31 = .ok (.iconst 2, 1) := by decide +kernel
theorem dX2_settingOfWord_32 : decode cX2_settingOfWord 32 = .ok (.ireturn, 1) := by decide +kernel
theorem dX2_settingOfWord_33 : decode cX2_settingOfWord 33 = .ok (.aload_n 0, 1) := by decide +kernel
theorem dX2_settingOfWord_34 : decode cX2_settingOfWord 34 = .ok (.ldc 111, 2) := by decide +kernel
theorem dX2_settingOfWord_36 : decode cX2_settingOfWord 36 = .ok (.invokevirtual 91, 3) := by decide +kernel
theorem dX2_settingOfWord_39 : decode cX2_settingOfWord 39 = .ok (.ifCond .eq 5, 3) := by decide +kernel
theorem dX2_settingOfWord_42 : decode cX2_settingOfWord 42 = .ok (.iconst 3, 1) := by decide +kernel
theorem dX2_settingOfWord_43 : decode cX2_settingOfWord 43 = .ok (.ireturn, 1) := by decide +kernel
theorem dX2_settingOfWord_44 : decode cX2_settingOfWord 44 = .ok (.aload_n 0, 1) := by decide +kernel
theorem dX2_settingOfWord_45 : decode cX2_settingOfWord 45 = .ok (.ldc 113, 2) := by decide +kernel
theorem dX2_settingOfWord_47 : decode cX2_settingOfWord 47 = .ok (.invokevirtual 91, 3) := by decide +kernel
theorem dX2_settingOfWord_50 : decode cX2_settingOfWord 50 = .ok (.ifCond .eq 5, 3) := by decide +kernel
theorem dX2_settingOfWord_53 : decode cX2_settingOfWord 53 = .ok (.iconst 4, 1) := by decide +kernel
theorem dX2_settingOfWord_54 : decode cX2_settingOfWord 54 = .ok (.ireturn, 1) := by decide +kernel
theorem dX2_settingOfWord_55 : decode cX2_settingOfWord 55 = .ok (.aload_n 0, 1) := by decide +kernel
theorem dX2_settingOfWord_56 : decode cX2_settingOfWord 56 = .ok (.ldc 115, 2) := by decide +kernel
theorem dX2_settingOfWord_58 : decode cX2_settingOfWord 58 = .ok (.invokevirtual 91, 3) := by decide +kernel
theorem dX2_settingOfWord_61 : decode cX2_settingOfWord 61 = .ok (.ifCond .eq 8, 3) := by decide +kernel
theorem dX2_settingOfWord_64 : decode cX2_settingOfWord 64 = .ok (.bipush 6, 2) := by decide +kernel
theorem dX2_settingOfWord_66 : decode cX2_settingOfWord 66 = .ok (.goto 4, 3) := by decide +kernel
theorem dX2_settingOfWord_69 : decode cX2_settingOfWord 69 = .ok (.iconst (-1), 1) := by decide +kernel
theorem dX2_settingOfWord_70 : decode cX2_settingOfWord 70 = .ok (.ireturn, 1) := by decide +kernel
theorem dX2_readSetting_0 : decode cX2_readSetting 0 = .ok (.iload_n 2, 1) := by decide +kernel
theorem dX2_readSetting_1 : decode cX2_readSetting 1 = .ok (.ifCond .lt 9, 3) := by decide +kernel
theorem dX2_readSetting_4 : decode cX2_readSetting 4 = .ok (.iload_n 2, 1) := by decide +kernel
theorem dX2_readSetting_5 : decode cX2_readSetting 5 = .ok (.bipush 7, 2) := by decide +kernel
theorem dX2_readSetting_7 : decode cX2_readSetting 7 = .ok (.if_icmp .lt 9, 3) := by decide +kernel
theorem dX2_readSetting_10 : decode cX2_readSetting 10 = .ok (.aload_n 0, 1) := by decide +kernel
theorem dX2_readSetting_11 : decode cX2_readSetting 11 = .ok (.iconst 1, 1) := by decide +kernel
theorem dX2_readSetting_12 : decode cX2_readSetting 12 = .ok (.invokevirtual 72, 3) := by decide +kernel
theorem dX2_readSetting_15 : decode cX2_readSetting 15 = .ok (.ireturn, 1) := by decide +kernel
theorem dX2_readSetting_16 : decode cX2_readSetting 16 = .ok (.aload_n 0, 1) := by decide +kernel
theorem dX2_readSetting_17 : decode cX2_readSetting 17 = .ok (.getstatic 117, 3) := by decide +kernel
theorem dX2_readSetting_20 : decode cX2_readSetting 20 = .ok (.iload_n 2, 1) := by decide +kernel
theorem dX2_readSetting_21 : decode cX2_readSetting 21 = .ok (.iaload, 1) := by decide +kernel
theorem dX2_readSetting_22 : decode cX2_readSetting 22 = .ok (.getstatic 120, 3) := by decide +kernel
theorem dX2_readSetting_25 : decode cX2_readSetting 25 = .ok (.iload_n 2, 1) := by decide +kernel
theorem dX2_readSetting_26 : decode cX2_readSetting 26 = .ok (.iaload, 1) := by decide +kernel
theorem dX2_readSetting_27 : decode cX2_readSetting 27 = .ok (.invokevirtual 123, 3) := by decide +kernel
theorem dX2_readSetting_30 : decode cX2_readSetting 30 = .ok (.ifCond .ne 5, 3) := by decide +kernel
theorem dX2_readSetting_33 : decode cX2_readSetting 33 = .ok (.iconst 0, 1) := by decide +kernel
theorem dX2_readSetting_34 : decode cX2_readSetting 34 = .ok (.ireturn, 1) := by decide +kernel
theorem dX2_readSetting_35 : decode cX2_readSetting 35 = .ok (.aload_n 1, 1) := by decide +kernel
theorem dX2_readSetting_36 : decode cX2_readSetting 36 = .ok (.getfield 127, 3) := by decide +kernel
theorem dX2_readSetting_39 : decode cX2_readSetting 39 = .ok (.iload_n 2, 1) := by decide +kernel
theorem dX2_readSetting_40 : decode cX2_readSetting 40 = .ok (.aload_n 0, 1) := by decide +kernel
theorem dX2_readSetting_41 : decode cX2_readSetting 41 = .ok (.getfield 76, 3) := by decide +kernel
theorem dX2_readSetting_44 : decode cX2_readSetting 44 = .ok (.iastore, 1) := by decide +kernel
theorem dX2_readSetting_45 : decode cX2_readSetting 45 = .ok (.iconst 1, 1) := by decide +kernel
theorem dX2_readSetting_46 : decode cX2_readSetting 46 = .ok (.ireturn, 1) := by decide +kernel
theorem dX2_readStart_0 : decode cX2_readStart 0 = .ok (.aload_n 0, 1) := by decide +kernel
theorem dX2_readStart_1 : decode cX2_readStart 1 = .ok (.invokevirtual 69, 3) := by decide +kernel
theorem dX2_readStart_4 : decode cX2_readStart 4 = .ok (.aload_n 0, 1) := by decide +kernel
theorem dX2_readStart_5 : decode cX2_readStart 5 = .ok (.bipush (-30), 2) := by decide +kernel
theorem dX2_readStart_7 : decode cX2_readStart 7 = .ok (.bipush 30, 2) := by decide +kernel
theorem dX2_readStart_9 : decode cX2_readStart 9 = .ok (.invokevirtual 132, 3) := by decide +kernel
theorem dX2_readStart_12 : decode cX2_readStart 12 = .ok (.ifCond .ne 5, 3) := by decide +kernel
theorem dX2_readStart_15 : decode cX2_readStart 15 = .ok (.iconst 0, 1) := by decide +kernel
theorem dX2_readStart_16 : decode cX2_readStart 16 = .ok (.ireturn, 1) := by decide +kernel
theorem dX2_readStart_17 : decode cX2_readStart 17 = .ok (.aload_n 0, 1) := by decide +kernel
theorem dX2_readStart_18 : decode cX2_readStart 18 = .ok (.getfield 76, 3) := by decide +kernel
theorem dX2_readStart_21 : decode cX2_readStart 21 = .ok (.istore_n 2, 1) := by decide +kernel
theorem dX2_readStart_22 : decode cX2_readStart 22 = .ok (.aload_n 1, 1) := by decide +kernel
theorem dX2_readStart_23 : decode cX2_readStart 23 = .ok (.getfield 127, 3) := by decide +kernel
theorem dX2_readStart_26 : decode cX2_readStart 26 = .ok (.iconst 0, 1) := by decide +kernel
theorem dX2_readStart_27 : decode cX2_readStart 27 = .ok (.iaload, 1) := by decide +kernel
theorem dX2_readStart_28 : decode cX2_readStart 28 = .ok (.istore_n 3, 1) := by decide +kernel
theorem dX2_readStart_29 : decode cX2_readStart 29 = .ok (.aload_n 0, 1) := by decide +kernel
theorem dX2_readStart_30 : decode cX2_readStart 30 = .ok (.getfield 36, 3) := by decide +kernel
theorem dX2_readStart_33 : decode cX2_readStart 33 = .ok (.iconst 2, 1) := by decide +kernel
theorem dX2_readStart_34 : decode cX2_readStart 34 = .ok (.if_icmp .ne 32, 3) := by decide +kernel
theorem dX2_readStart_37 : decode cX2_readStart 37 = .ok (.aload_n 0, 1) := by decide +kernel
theorem dX2_readStart_38 : decode cX2_readStart 38 = .ok (.getfield 39, 3) := by decide +kernel
theorem dX2_readStart_41 : decode cX2_readStart 41 = .ok (.iload_n 3, 1) := by decide +kernel
theorem dX2_readStart_42 : decode cX2_readStart 42 = .ok (.if_icmp .ge 24, 3) := by decide +kernel
theorem dX2_readStart_45 : decode cX2_readStart 45 = .ok (.aload_n 0, 1) := by decide +kernel
theorem dX2_readStart_46 : decode cX2_readStart 46 = .ok (.getfield 66, 3) := by decide +kernel
theorem dX2_readStart_49 : decode cX2_readStart 49 = .ok (.aload_n 0, 1) := by decide +kernel
theorem dX2_readStart_50 : decode cX2_readStart 50 = .ok (.getfield 39, 3) := by decide +kernel
theorem dX2_readStart_53 : decode cX2_readStart 53 = .ok (.ishr, 1) := by decide +kernel
theorem dX2_readStart_54 : decode cX2_readStart 54 = .ok (.iconst 1, 1) := by decide +kernel
theorem dX2_readStart_55 : decode cX2_readStart 55 = .ok (.iand, 1) := by decide +kernel
theorem dX2_readStart_56 : decode cX2_readStart 56 = .ok (.iconst 1, 1) := by decide +kernel
theorem dX2_readStart_57 : decode cX2_readStart 57 = .ok (.if_icmp .ne 9, 3) := by decide +kernel
theorem dX2_readStart_60 : decode cX2_readStart 60 = .ok (.aload_n 0, 1) := by decide +kernel
theorem dX2_readStart_61 : decode cX2_readStart 61 = .ok (.iconst 4, 1) := by decide +kernel
theorem dX2_readStart_62 : decode cX2_readStart 62 = .ok (.invokevirtual 72, 3) := by decide +kernel
theorem dX2_readStart_65 : decode cX2_readStart 65 = .ok (.ireturn, 1) := by decide +kernel
theorem dX2_readStart_66 : decode cX2_readStart 66 = .ok (.aload_n 0, 1) := by decide +kernel
theorem dX2_readStart_67 : decode cX2_readStart 67 = .ok (.iconst 0, 1) := by decide +kernel
theorem dX2_readStart_68 : decode cX2_readStart 68 = .ok (.iload_n 3, 1) := by decide +kernel
theorem dX2_readStart_69 : decode cX2_readStart 69 = .ok (.iconst 1, 1) := by decide +kernel
theorem dX2_readStart_70 : decode cX2_readStart 70 = .ok (.isub, 1) := by decide +kernel
theorem dX2_readStart_71 : decode cX2_readStart 71 = .ok (.invokevirtual 123, 3) := by decide +kernel
theorem dX2_readStart_74 : decode cX2_readStart 74 = .ok (.ifCond .eq 18, 3) := by decide +kernel
theorem dX2_readStart_77 : decode cX2_readStart 77 = .ok (.aload_n 0, 1) := by decide +kernel
theorem dX2_readStart_78 : decode cX2_readStart 78 = .ok (.getfield 76, 3) := by decide +kernel
theorem dX2_readStart_81 : decode cX2_readStart 81 = .ok (.ifCond .lt 11, 3) := by decide +kernel
theorem dX2_readStart_84 : decode cX2_readStart 84 = .ok (.aload_n 0, 1) := by decide +kernel
theorem dX2_readStart_85 : decode cX2_readStart 85 = .ok (.getfield 76, 3) := by decide +kernel
theorem dX2_readStart_88 : decode cX2_readStart 88 = .ok (.iconst 5, 1) := by decide +kernel
theorem dX2_readStart_89 : decode cX2_readStart 89 = .ok (.if_icmp .lt 5, 3) := by decide +kernel
theorem dX2_readStart_92 : decode cX2_readStart 92 = .ok (.iconst 0, 1) := by decide +kernel
theorem dX2_readStart_93 : decode cX2_readStart 93 = .ok (.ireturn, 1) := by decide +kernel
theorem dX2_readStart_94 : decode cX2_readStart 94 = .ok (.aload_n 0, 1) := by decide +kernel
theorem dX2_readStart_95 : decode cX2_readStart 95 = .ok (.dup, 1) := by decide +kernel
theorem dX2_readStart_96 : decode cX2_readStart 96 = .ok (.getfield 66, 3) := by decide +kernel
theorem dX2_readStart_99 : decode cX2_readStart 99 = .ok (.iconst 1, 1) := by decide +kernel
theorem dX2_readStart_100 : decode cX2_readStart 100 = .ok (.aload_n 0, 1) := by decide +kernel
theorem dX2_readStart_101 : decode cX2_readStart 101 = .ok (.getfield 76, 3) := by decide +kernel
theorem dX2_readStart_104 : decode cX2_readStart 104 = .ok (.ishl, 1) := by decide +kernel
theorem dX2_readStart_105 : decode cX2_readStart 105 = .ok (.ior, 1) := by decide +kernel
theorem dX2_readStart_106 : decode cX2_readStart 106 = .ok (.putfield 66, 3) := by decide +kernel
theorem dX2_readStart_109 : decode cX2_readStart 109 = .ok (.aload_n 1, 1) := by decide +kernel
theorem dX2_readStart_110 : decode cX2_readStart 110 = .ok (.getfield 135, 3) := by decide +kernel
theorem dX2_readStart_113 : decode cX2_readStart 113 = .ok (.aload_n 0, 1) := by decide +kernel
theorem dX2_readStart_114 : decode cX2_readStart 114 = .ok (.getfield 76, 3) := by decide +kernel
theorem dX2_readStart_117 : decode cX2_readStart 117 = .ok (.iload_n 2, 1) := by decide +kernel
theorem dX2_readStart_118 : decode cX2_readStart 118 = .ok (.iastore, 1) := by decide +kernel
theorem dX2_readStart_119 : decode cX2_readStart 119 = .ok (.iconst 1, 1) := by decide +kernel
theorem dX2_readStart_120 : decode cX2_readStart 120 = .ok (.ireturn, 1) := by decide +kernel
theorem dX2_argument_0 : decode cX2_argument 0 = .ok (.iload_n 1, 1) := by decide +kernel
theorem dX2_argument_1 : decode cX2_argument 1 = .ok (.bipush 6, 2) := by decide +kernel
theorem dX2_argument_3 : decode cX2_argument 3 = .ok (.imul, 1) := by decide +kernel
theorem dX2_argument_4 : decode cX2_argument 4 = .ok (.iload_n 2, 1) := by decide +kernel
theorem dX2_argument_5 : decode cX2_argument 5 = .ok (.iadd, 1) := by decide +kernel
theorem dX2_argument_6 : decode cX2_argument 6 = .ok (.istore_n 3, 1) := by decide +kernel
theorem dX2_argument_7 : decode cX2_argument 7 = .ok (.iload_n 3, 1) := by decide +kernel
theorem dX2_argument_8 : decode cX2_argument 8 = .ok (.ifCond .lt 21, 3) := by decide +kernel
theorem dX2_argument_11 : decode cX2_argument 11 = .ok (.iload_n 3, 1) := by decide +kernel
theorem dX2_argument_12 : decode cX2_argument 12 = .ok (.aload_n 0, 1) := by decide +kernel
theorem dX2_argument_13 : decode cX2_argument 13 = .ok (.getfield 15, 3) := by decide +kernel
theorem dX2_argument_16 : decode cX2_argument 16 = .ok (.arraylength, 1) := by decide +kernel
theorem dX2_argument_17 : decode cX2_argument 17 = .ok (.if_icmp .ge 12, 3) := by decide +kernel
theorem dX2_argument_20 : decode cX2_argument 20 = .ok (.aload_n 0, 1) := by decide +kernel
theorem dX2_argument_21 : decode cX2_argument 21 = .ok (.getfield 15, 3) := by decide +kernel
theorem dX2_argument_24 : decode cX2_argument 24 = .ok (.iload_n 3, 1) := by decide +kernel
theorem dX2_argument_25 : decode cX2_argument 25 = .ok (.iaload, 1) := by decide +kernel
theorem dX2_argument_26 : decode cX2_argument 26 = .ok (.goto 4, 3) := by decide +kernel
theorem dX2_argument_29 : decode cX2_argument 29 = .ok (.iconst 0, 1) := by decide +kernel
theorem dX2_argument_30 : decode cX2_argument 30 = .ok (.ireturn, 1) := by decide +kernel
theorem dX2_keep_0 : decode cX2_keep 0 = .ok (.aload_n 0, 1) := by decide +kernel
theorem dX2_keep_1 : decode cX2_keep 1 = .ok (.getfield 60, 3) := by decide +kernel
theorem dX2_keep_4 : decode cX2_keep 4 = .ok (.bipush 6, 2) := by decide +kernel
theorem dX2_keep_6 : decode cX2_keep 6 = .ok (.imul, 1) := by decide +kernel
theorem dX2_keep_7 : decode cX2_keep 7 = .ok (.iload_n 1, 1) := by decide +kernel
theorem dX2_keep_8 : decode cX2_keep 8 = .ok (.iadd, 1) := by decide +kernel
theorem dX2_keep_9 : decode cX2_keep 9 = .ok (.istore_n 3, 1) := by decide +kernel
theorem dX2_keep_10 : decode cX2_keep 10 = .ok (.iload_n 3, 1) := by decide +kernel
theorem dX2_keep_11 : decode cX2_keep 11 = .ok (.ifCond .lt 19, 3) := by decide +kernel
theorem dX2_keep_14 : decode cX2_keep 14 = .ok (.iload_n 3, 1) := by decide +kernel
theorem dX2_keep_15 : decode cX2_keep 15 = .ok (.aload_n 0, 1) := by decide +kernel
theorem dX2_keep_16 : decode cX2_keep 16 = .ok (.getfield 15, 3) := by decide +kernel
theorem dX2_keep_19 : decode cX2_keep 19 = .ok (.arraylength, 1) := by decide +kernel
theorem dX2_keep_20 : decode cX2_keep 20 = .ok (.if_icmp .ge 10, 3) := by decide +kernel
theorem dX2_keep_23 : decode cX2_keep 23 = .ok (.aload_n 0, 1) := by decide +kernel
theorem dX2_keep_24 : decode cX2_keep 24 = .ok (.getfield 15, 3) := by decide +kernel
theorem dX2_keep_27 : decode cX2_keep 27 = .ok (.iload_n 3, 1) := by decide +kernel
theorem dX2_keep_28 : decode cX2_keep 28 = .ok (.iload_n 2, 1) := by decide +kernel
theorem dX2_keep_29 : decode cX2_keep 29 = .ok (.iastore, 1) := by decide +kernel
theorem dX2_keep_30 : decode cX2_keep 30 = .ok (.iconst 1, 1) := by decide +kernel
theorem dX2_keep_31 : decode cX2_keep 31 = .ok (.ireturn, 1) := by decide +kernel
theorem dX2_readScript_0 : decode cX2_readScript 0 = .ok (.aload_n 0, 1) := by decide +kernel
theorem dX2_readScript_1 : decode cX2_readScript 1 = .ok (.invokevirtual 79, 3) := by decide +kernel
theorem dX2_readScript_4 : decode cX2_readScript 4 = .ok (.aload_n 0, 1) := by decide +kernel
theorem dX2_readScript_5 : decode cX2_readScript 5 = .ok (.getfield 36, 3) := by decide +kernel
theorem dX2_readScript_8 : decode cX2_readScript 8 = .ok (.ifCond .eq 42, 3) := by decide +kernel
theorem dX2_readScript_11 : decode cX2_readScript 11 = .ok (.aload_n 0, 1) := by decide +kernel
theorem dX2_readScript_12 : decode cX2_readScript 12 = .ok (.getfield 60, 3) := by decide +kernel
theorem dX2_readScript_15 : decode cX2_readScript 15 = .ok (.bipush 40, 2) := by decide +kernel
theorem dX2_readScript_17 : decode cX2_readScript 17 = .ok (.if_icmp .gt 33, 3) := by decide +kernel
theorem dX2_readScript_20 : decode cX2_readScript 20 = .ok (.aload_n 0, 1) := by decide +kernel
theorem dX2_readScript_21 : decode cX2_readScript 21 = .ok (.iload_n 1, 1) := by decide +kernel
theorem dX2_readScript_22 : decode cX2_readScript 22 = .ok (.invokevirtual 138, 3) := by decide +kernel
theorem dX2_readScript_25 : decode cX2_readScript 25 = .ok (.ifCond .eq 10, 3) := by decide +kernel
theorem dX2_readScript_28 : decode cX2_readScript 28 = .ok (.aload_n 0, 1) := by decide +kernel
theorem dX2_readScript_29 : decode cX2_readScript 29 = .ok (.invokevirtual 86, 3) := by decide +kernel
theorem dX2_readScript_32 : decode cX2_readScript 32 = .ok (.ifCond .ne 5, 3) := by decide +kernel
theorem dX2_readScript_35 : decode cX2_readScript 35 = .ok (.iconst 0, 1) := by decide +kernel
theorem dX2_readScript_36 : decode cX2_readScript 36 = .ok (.ireturn, 1) := by decide +kernel
theorem dX2_readScript_37 : decode cX2_readScript 37 = .ok (.aload_n 0, 1) := by decide +kernel
theorem dX2_readScript_38 : decode cX2_readScript 38 = .ok (.dup, 1) := by decide +kernel
theorem dX2_readScript_39 : decode cX2_readScript 39 = .ok (.getfield 60, 3) := by decide +kernel
theorem dX2_readScript_42 : decode cX2_readScript 42 = .ok (.iconst 1, 1) := by decide +kernel
theorem dX2_readScript_43 : decode cX2_readScript 43 = .ok (.iadd, 1) := by decide +kernel
theorem dX2_readScript_44 : decode cX2_readScript 44 = .ok (.putfield 60, 3) := by decide +kernel
theorem dX2_readScript_47 : decode cX2_readScript 47 = .ok (.goto (-43), 3) := by decide +kernel
theorem dX2_readScript_50 : decode cX2_readScript 50 = .ok (.iconst 1, 1) := by decide +kernel
theorem dX2_readScript_51 : decode cX2_readScript 51 = .ok (.ireturn, 1) := by decide +kernel
theorem dX2_readCommand_0 : decode cX2_readCommand 0 = .ok (.aload_n 0, 1) := by decide +kernel
theorem dX2_readCommand_1 : decode cX2_readCommand 1 = .ok (.invokevirtual 141, 3) := by decide +kernel
theorem dX2_readCommand_4 : decode cX2_readCommand 4 = .ok (.istore_n 2, 1) := by decide +kernel
theorem dX2_readCommand_5 : decode cX2_readCommand 5 = .ok (.iload_n 2, 1) := by decide +kernel
theorem dX2_readCommand_6 : decode cX2_readCommand 6 = .ok (.iconst (-1), 1) := by decide +kernel
theorem dX2_readCommand_7 : decode cX2_readCommand 7 = .ok (.if_icmp .ne 9, 3) := by decide +kernel
theorem dX2_readCommand_10 : decode cX2_readCommand 10 = .ok (.aload_n 0, 1) := by decide +kernel
theorem dX2_readCommand_11 : decode cX2_readCommand 11 = .ok (.iconst 1, 1) := by decide +kernel
theorem dX2_readCommand_12 : decode cX2_readCommand 12 = .ok (.invokevirtual 72, 3) := by decide +kernel
theorem dX2_readCommand_15 : decode cX2_readCommand 15 = .ok (.ireturn, 1) := by decide +kernel
theorem dX2_readCommand_16 : decode cX2_readCommand 16 = .ok (.aload_n 0, 1) := by decide +kernel
theorem dX2_readCommand_17 : decode cX2_readCommand 17 = .ok (.getfield 60, 3) := by decide +kernel
theorem dX2_readCommand_20 : decode cX2_readCommand 20 = .ok (.bipush 40, 2) := by decide +kernel
theorem dX2_readCommand_22 : decode cX2_readCommand 22 = .ok (.if_icmp .lt 9, 3) := by decide +kernel
theorem dX2_readCommand_25 : decode cX2_readCommand 25 = .ok (.aload_n 0, 1) := by decide +kernel
theorem dX2_readCommand_26 : decode cX2_readCommand 26 = .ok (.iconst 5, 1) := by decide +kernel
theorem dX2_readCommand_27 : decode cX2_readCommand 27 = .ok (.invokevirtual 72, 3) := by decide +kernel
theorem dX2_readCommand_30 : decode cX2_readCommand 30 = .ok (.ireturn, 1) := by decide +kernel
theorem dX2_readCommand_31 : decode cX2_readCommand 31 = .ok (.aload_n 0, 1) := by decide +kernel
theorem dX2_readCommand_32 : decode cX2_readCommand 32 = .ok (.iconst 0, 1) := by decide +kernel
theorem dX2_readCommand_33 : decode cX2_readCommand 33 = .ok (.iload_n 2, 1) := by decide +kernel
theorem dX2_readCommand_34 : decode cX2_readCommand 34 = .ok (.invokevirtual 144, 3) := by decide +kernel
theorem dX2_readCommand_37 : decode cX2_readCommand 37 = .ok (.pop, 1) := by decide +kernel
theorem dX2_readCommand_38 : decode cX2_readCommand 38 = .ok (.aload_n 0, 1) := by decide +kernel
theorem dX2_readCommand_39 : decode cX2_readCommand 39 = .ok (.invokevirtual 69, 3) := by decide +kernel
theorem dX2_readCommand_42 : decode cX2_readCommand 42 = .ok (.iload_n 2, 1) := by decide +kernel
theorem dX2_readCommand_43 : decode cX2_readCommand 43 = .ok (.ifCond .ne 9, 3) := by decide +kernel
theorem dX2_readCommand_46 : decode cX2_readCommand 46 = .ok (.aload_n 0, 1) := by decide +kernel
theorem dX2_readCommand_47 : decode cX2_readCommand 47 = .ok (.iload_n 1, 1) := by decide +kernel
theorem dX2_readCommand_48 : decode cX2_readCommand 48 = .ok (.invokevirtual 147, 3) := by decide +kernel
theorem dX2_readCommand_51 : decode cX2_readCommand 51 = .ok (.ireturn, 1) := by decide +kernel
theorem dX2_readCommand_52 : decode cX2_readCommand 52 = .ok (.iload_n 2, 1) := by decide +kernel
theorem dX2_readCommand_53 : decode cX2_readCommand 53 = .ok (.iconst 2, 1) := by decide +kernel
theorem dX2_readCommand_54 : decode cX2_readCommand 54 = .ok (.if_icmp .eq 10, 3) := by decide +kernel
theorem dX2_readCommand_57 : decode cX2_readCommand 57 = .ok (.aload_n 0, 1) := by decide +kernel
theorem dX2_readCommand_58 : decode cX2_readCommand 58 = .ok (.invokevirtual 150, 3) := by decide +kernel
theorem dX2_readCommand_61 : decode cX2_readCommand 61 = .ok (.ifCond .eq 7, 3) := by decide +kernel
theorem dX2_readCommand_64 : decode cX2_readCommand 64 = .ok (.iconst 1, 1) := by decide +kernel
theorem dX2_readCommand_65 : decode cX2_readCommand 65 = .ok (.goto 4, 3) := by decide +kernel
theorem dX2_readCommand_68 : decode cX2_readCommand 68 = .ok (.iconst 0, 1) := by decide +kernel
theorem dX2_readCommand_69 : decode cX2_readCommand 69 = .ok (.ireturn, 1) := by decide +kernel
theorem dX2_actOfWord_0 : decode cX2_actOfWord 0 = .ok (.aload_n 0, 1) := by decide +kernel
theorem dX2_actOfWord_1 : decode cX2_actOfWord 1 = .ok (.ldc 153, 2) := by decide +kernel
theorem dX2_actOfWord_3 : decode cX2_actOfWord 3 = .ok (.invokevirtual 91, 3) := by decide +kernel
theorem dX2_actOfWord_6 : decode cX2_actOfWord 6 = .ok (.ifCond .eq 5, 3) := by decide +kernel
theorem dX2_actOfWord_9 : decode cX2_actOfWord 9 = .ok (.iconst 0, 1) := by decide +kernel
theorem dX2_actOfWord_10 : decode cX2_actOfWord 10 = .ok (.ireturn, 1) := by decide +kernel
theorem dX2_actOfWord_11 : decode cX2_actOfWord 11 = .ok (.aload_n 0, 1) := by decide +kernel
theorem dX2_actOfWord_12 : decode cX2_actOfWord 12 = .ok (.ldc 155, 2) := by decide +kernel
theorem dX2_actOfWord_14 : decode cX2_actOfWord 14 = .ok (.invokevirtual 91, 3) := by decide +kernel
theorem dX2_actOfWord_17 : decode cX2_actOfWord 17 = .ok (.ifCond .eq 5, 3) := by decide +kernel
theorem dX2_actOfWord_20 : decode cX2_actOfWord 20 = .ok (.iconst 1, 1) := by decide +kernel
theorem dX2_actOfWord_21 : decode cX2_actOfWord 21 = .ok (.ireturn, 1) := by decide +kernel
theorem dX2_actOfWord_22 : decode cX2_actOfWord 22 = .ok (.aload_n 0, 1) := by decide +kernel
theorem dX2_actOfWord_23 : decode cX2_actOfWord 23 = .ok (.ldc 157, 2) := by decide +kernel
theorem dX2_actOfWord_25 : decode cX2_actOfWord 25 = .ok (.invokevirtual 91, 3) := by decide +kernel
theorem dX2_actOfWord_28 : decode cX2_actOfWord 28 = .ok (.ifCond .eq 7, 3) := by decide +kernel
theorem dX2_actOfWord_31 : decode cX2_actOfWord 31 = .ok (.iconst 2, 1) := by decide +kernel
theorem dX2_actOfWord_32 : decode cX2_actOfWord 32 = .ok (.goto 4, 3) := by decide +kernel
theorem dX2_actOfWord_35 : decode cX2_actOfWord 35 = .ok (.iconst (-1), 1) := by decide +kernel
theorem dX2_actOfWord_36 : decode cX2_actOfWord 36 = .ok (.ireturn, 1) := by decide +kernel
theorem dX2_readTerm_0 : decode cX2_readTerm 0 = .ok (.aload_n 0, 1) := by decide +kernel
theorem dX2_readTerm_1 : decode cX2_readTerm 1 = .ok (.getfield 36, 3) := by decide +kernel
theorem dX2_readTerm_4 : decode cX2_readTerm 4 = .ok (.iconst 3, 1) := by decide +kernel
theorem dX2_readTerm_5 : decode cX2_readTerm 5 = .ok (.if_icmp .ne 8, 3) := by decide +kernel
theorem dX2_readTerm_8 : decode cX2_readTerm 8 = .ok (.bipush (-9), 2) := by decide +kernel
theorem dX2_readTerm_10 : decode cX2_readTerm 10 = .ok (.goto 4, 3) := by decide +kernel
theorem dX2_readTerm_13 : decode cX2_readTerm 13 = .ok (.iconst 1, 1) := by decide +kernel
theorem dX2_readTerm_14 : decode cX2_readTerm 14 = .ok (.istore_n 2, 1) := by decide +kernel
theorem dX2_readTerm_15 : decode cX2_readTerm 15 = .ok (.aload_n 0, 1) := by decide +kernel
theorem dX2_readTerm_16 : decode cX2_readTerm 16 = .ok (.getfield 36, 3) := by decide +kernel
theorem dX2_readTerm_19 : decode cX2_readTerm 19 = .ok (.iconst 3, 1) := by decide +kernel
theorem dX2_readTerm_20 : decode cX2_readTerm 20 = .ok (.if_icmp .ne 7, 3) := by decide +kernel
theorem dX2_readTerm_23 : decode cX2_readTerm 23 = .ok (.iconst (-1), 1) := by decide +kernel
theorem dX2_readTerm_24 : decode cX2_readTerm 24 = .ok (.goto 5, 3) := by decide +kernel
theorem dX2_readTerm_27 : decode cX2_readTerm 27 = .ok (.bipush 9, 2) := by decide +kernel
theorem dX2_readTerm_29 : decode cX2_readTerm 29 = .ok (.istore_n 3, 1) := by decide +kernel
theorem dX2_readTerm_30 : decode cX2_readTerm 30 = .ok (.aload_n 0, 1) := by decide +kernel
theorem dX2_readTerm_31 : decode cX2_readTerm 31 = .ok (.iload_n 2, 1) := by decide +kernel
theorem dX2_readTerm_32 : decode cX2_readTerm 32 = .ok (.iload_n 3, 1) := by decide +kernel
theorem dX2_readTerm_33 : decode cX2_readTerm 33 = .ok (.invokevirtual 132, 3) := by decide +kernel
theorem dX2_readTerm_36 : decode cX2_readTerm 36 = .ok (.ifCond .eq 42, 3) := by decide +kernel
theorem dX2_readTerm_39 : decode cX2_readTerm 39 = .ok (.aload_n 0, 1) := by decide +kernel
theorem dX2_readTerm_40 : decode cX2_readTerm 40 = .ok (.iconst 1, 1) := by decide +kernel
theorem dX2_readTerm_41 : decode cX2_readTerm 41 = .ok (.aload_n 0, 1) := by decide +kernel
theorem dX2_readTerm_42 : decode cX2_readTerm 42 = .ok (.getfield 76, 3) := by decide +kernel
theorem dX2_readTerm_45 : decode cX2_readTerm 45 = .ok (.invokevirtual 144, 3) := by decide +kernel
theorem dX2_readTerm_48 : decode cX2_readTerm 48 = .ok (.ifCond .eq 30, 3) := by decide +kernel
theorem dX2_readTerm_51 : decode cX2_readTerm 51 = .ok (.aload_n 0, 1) := by decide +kernel
theorem dX2_readTerm_52 : decode cX2_readTerm 52 = .ok (.iconst 0, 1) := by decide +kernel
theorem dX2_readTerm_53 : decode cX2_readTerm 53 = .ok (.iload_n 1, 1) := by decide +kernel
theorem dX2_readTerm_54 : decode cX2_readTerm 54 = .ok (.iconst 1, 1) := by decide +kernel
theorem dX2_readTerm_55 : decode cX2_readTerm 55 = .ok (.isub, 1) := by decide +kernel
theorem dX2_readTerm_56 : decode cX2_readTerm 56 = .ok (.invokevirtual 123, 3) := by decide +kernel
theorem dX2_readTerm_59 : decode cX2_readTerm 59 = .ok (.ifCond .eq 19, 3) := by decide +kernel
theorem dX2_readTerm_62 : decode cX2_readTerm 62 = .ok (.aload_n 0, 1) := by decide +kernel
theorem dX2_readTerm_63 : decode cX2_readTerm 63 = .ok (.iconst 2, 1) := by decide +kernel
theorem dX2_readTerm_64 : decode cX2_readTerm 64 = .ok (.aload_n 0, 1) := by decide +kernel
theorem dX2_readTerm_65 : decode cX2_readTerm 65 = .ok (.getfield 76, 3) := by decide +kernel
theorem dX2_readTerm_68 : decode cX2_readTerm 68 = .ok (.invokevirtual 144, 3) := by decide +kernel
theorem dX2_readTerm_71 : decode cX2_readTerm 71 = .ok (.ifCond .eq 7, 3) := by decide +kernel
theorem dX2_readTerm_74 : decode cX2_readTerm 74 = .ok (.iconst 1, 1) := by decide +kernel
theorem dX2_readTerm_75 : decode cX2_readTerm 75 = .ok (.goto 4, 3) := by decide +kernel
theorem dX2_readTerm_78 : decode cX2_readTerm 78 = .ok (.iconst 0, 1) := by decide +kernel
theorem dX2_readTerm_79 : decode cX2_readTerm 79 = .ok (.ireturn, 1) := by decide +kernel
theorem dX2_readClaim_0 : decode cX2_readClaim 0 = .ok (.aload_n 0, 1) := by decide +kernel
theorem dX2_readClaim_1 : decode cX2_readClaim 1 = .ok (.ldc 159, 2) := by decide +kernel
theorem dX2_readClaim_3 : decode cX2_readClaim 3 = .ok (.invokevirtual 91, 3) := by decide +kernel
theorem dX2_readClaim_6 : decode cX2_readClaim 6 = .ok (.istore_n 1, 1) := by decide +kernel
theorem dX2_readClaim_7 : decode cX2_readClaim 7 = .ok (.iload_n 1, 1) := by decide +kernel
theorem dX2_readClaim_8 : decode cX2_readClaim 8 = .ok (.ifCond .ne 18, 3) := by decide +kernel
theorem dX2_readClaim_11 : decode cX2_readClaim 11 = .ok (.aload_n 0, 1) := by decide +kernel
theorem dX2_readClaim_12 : decode cX2_readClaim 12 = .ok (.ldc 161, 2) := by decide +kernel
theorem dX2_readClaim_14 : decode cX2_readClaim 14 = .ok (.invokevirtual 91, 3) := by decide +kernel
theorem dX2_readClaim_17 : decode cX2_readClaim 17 = .ok (.ifCond .ne 9, 3) := by decide +kernel
theorem dX2_readClaim_20 : decode cX2_readClaim 20 = .ok (.aload_n 0, 1) := by decide +kernel
theorem dX2_readClaim_21 : decode cX2_readClaim 21 = .ok (.iconst 1, 1) := by decide +kernel
theorem dX2_readClaim_22 : decode cX2_readClaim 22 = .ok (.invokevirtual 72, 3) := by decide +kernel
theorem dX2_readClaim_25 : decode cX2_readClaim 25 = .ok (.ireturn, 1) := by decide +kernel
theorem dX2_readClaim_26 : decode cX2_readClaim 26 = .ok (.aload_n 0, 1) := by decide +kernel
theorem dX2_readClaim_27 : decode cX2_readClaim 27 = .ok (.iconst 4, 1) := by decide +kernel
theorem dX2_readClaim_28 : decode cX2_readClaim 28 = .ok (.iload_n 1, 1) := by decide +kernel
theorem dX2_readClaim_29 : decode cX2_readClaim 29 = .ok (.ifCond .eq 7, 3) := by decide +kernel
theorem dX2_readClaim_32 : decode cX2_readClaim 32 = .ok (.iconst 1, 1) := by decide +kernel
theorem dX2_readClaim_33 : decode cX2_readClaim 33 = .ok (.goto 4, 3) := by decide +kernel
theorem dX2_readClaim_36 : decode cX2_readClaim 36 = .ok (.iconst 0, 1) := by decide +kernel
theorem dX2_readClaim_37 : decode cX2_readClaim 37 = .ok (.invokevirtual 144, 3) := by decide +kernel
theorem dX2_readClaim_40 : decode cX2_readClaim 40 = .ok (.pop, 1) := by decide +kernel
theorem dX2_readClaim_41 : decode cX2_readClaim 41 = .ok (.aload_n 0, 1) := by decide +kernel
theorem dX2_readClaim_42 : decode cX2_readClaim 42 = .ok (.invokevirtual 69, 3) := by decide +kernel
theorem dX2_readClaim_45 : decode cX2_readClaim 45 = .ok (.aload_n 0, 1) := by decide +kernel
theorem dX2_readClaim_46 : decode cX2_readClaim 46 = .ok (.bipush (-20), 2) := by decide +kernel
theorem dX2_readClaim_48 : decode cX2_readClaim 48 = .ok (.bipush 19, 2) := by decide +kernel
theorem dX2_readClaim_50 : decode cX2_readClaim 50 = .ok (.invokevirtual 132, 3) := by decide +kernel
theorem dX2_readClaim_53 : decode cX2_readClaim 53 = .ok (.ifCond .ne 5, 3) := by decide +kernel
theorem dX2_readClaim_56 : decode cX2_readClaim 56 = .ok (.iconst 0, 1) := by decide +kernel
theorem dX2_readClaim_57 : decode cX2_readClaim 57 = .ok (.ireturn, 1) := by decide +kernel
theorem dX2_readClaim_58 : decode cX2_readClaim 58 = .ok (.aload_n 0, 1) := by decide +kernel
theorem dX2_readClaim_59 : decode cX2_readClaim 59 = .ok (.getfield 76, 3) := by decide +kernel
theorem dX2_readClaim_62 : decode cX2_readClaim 62 = .ok (.istore_n 2, 1) := by decide +kernel
theorem dX2_readClaim_63 : decode cX2_readClaim 63 = .ok (.aload_n 0, 1) := by decide +kernel
theorem dX2_readClaim_64 : decode cX2_readClaim 64 = .ok (.iconst 1, 1) := by decide +kernel
theorem dX2_readClaim_65 : decode cX2_readClaim 65 = .ok (.iload_n 2, 1) := by decide +kernel
theorem dX2_readClaim_66 : decode cX2_readClaim 66 = .ok (.invokevirtual 144, 3) := by decide +kernel
theorem dX2_readClaim_69 : decode cX2_readClaim 69 = .ok (.pop, 1) := by decide +kernel
theorem dX2_readClaim_70 : decode cX2_readClaim 70 = .ok (.aload_n 0, 1) := by decide +kernel
theorem dX2_readClaim_71 : decode cX2_readClaim 71 = .ok (.iload_n 2, 1) := by decide +kernel
theorem dX2_readClaim_72 : decode cX2_readClaim 72 = .ok (.iconst 1, 1) := by decide +kernel
theorem dX2_readClaim_73 : decode cX2_readClaim 73 = .ok (.iadd, 1) := by decide +kernel
theorem dX2_readClaim_74 : decode cX2_readClaim 74 = .ok (.bipush 20, 2) := by decide +kernel
theorem dX2_readClaim_76 : decode cX2_readClaim 76 = .ok (.invokevirtual 132, 3) := by decide +kernel
theorem dX2_readClaim_79 : decode cX2_readClaim 79 = .ok (.ifCond .eq 62, 3) := by decide +kernel
theorem dX2_readClaim_82 : decode cX2_readClaim 82 = .ok (.aload_n 0, 1) := by decide +kernel
theorem dX2_readClaim_83 : decode cX2_readClaim 83 = .ok (.iconst 2, 1) := by decide +kernel
theorem dX2_readClaim_84 : decode cX2_readClaim 84 = .ok (.aload_n 0, 1) := by decide +kernel
theorem dX2_readClaim_85 : decode cX2_readClaim 85 = .ok (.getfield 76, 3) := by decide +kernel
theorem dX2_readClaim_88 : decode cX2_readClaim 88 = .ok (.invokevirtual 144, 3) := by decide +kernel
theorem dX2_readClaim_91 : decode cX2_readClaim 91 = .ok (.ifCond .eq 50, 3) := by decide +kernel
theorem dX2_readClaim_94 : decode cX2_readClaim 94 = .ok (.aload_n 0, 1) := by decide +kernel
theorem dX2_readClaim_95 : decode cX2_readClaim 95 = .ok (.iconst 0, 1) := by decide +kernel
theorem dX2_readClaim_96 : decode cX2_readClaim 96 = .ok (.iconst 4, 1) := by decide +kernel
theorem dX2_readClaim_97 : decode cX2_readClaim 97 = .ok (.invokevirtual 123, 3) := by decide +kernel
theorem dX2_readClaim_100 : decode cX2_readClaim 100 = .ok (.ifCond .eq 41, 3) := by decide +kernel
theorem dX2_readClaim_103 : decode cX2_readClaim 103 = .ok (.aload_n 0, 1) := by decide +kernel
theorem dX2_readClaim_104 : decode cX2_readClaim 104 = .ok (.iconst 3, 1) := by decide +kernel
theorem dX2_readClaim_105 : decode cX2_readClaim 105 = .ok (.aload_n 0, 1) := by decide +kernel
theorem dX2_readClaim_106 : decode cX2_readClaim 106 = .ok (.getfield 76, 3) := by decide +kernel
theorem dX2_readClaim_109 : decode cX2_readClaim 109 = .ok (.invokevirtual 144, 3) := by decide +kernel
theorem dX2_readClaim_112 : decode cX2_readClaim 112 = .ok (.ifCond .eq 29, 3) := by decide +kernel
theorem dX2_readClaim_115 : decode cX2_readClaim 115 = .ok (.aload_n 0, 1) := by decide +kernel
theorem dX2_readClaim_116 : decode cX2_readClaim 116 = .ok (.iconst 1, 1) := by decide +kernel
theorem dX2_readClaim_117 : decode cX2_readClaim 117 = .ok (.bipush 9, 2) := by decide +kernel
theorem dX2_readClaim_119 : decode cX2_readClaim 119 = .ok (.invokevirtual 123, 3) := by decide +kernel
theorem dX2_readClaim_122 : decode cX2_readClaim 122 = .ok (.ifCond .eq 19, 3) := by decide +kernel
theorem dX2_readClaim_125 : decode cX2_readClaim 125 = .ok (.aload_n 0, 1) := by decide +kernel
theorem dX2_readClaim_126 : decode cX2_readClaim 126 = .ok (.iconst 5, 1) := by decide +kernel
theorem dX2_readClaim_127 : decode cX2_readClaim 127 = .ok (.aload_n 0, 1) := by decide +kernel
theorem dX2_readClaim_128 : decode cX2_readClaim 128 = .ok (.getfield 76, 3) := by decide +kernel
theorem dX2_readClaim_131 : decode cX2_readClaim 131 = .ok (.invokevirtual 144, 3) := by decide +kernel
theorem dX2_readClaim_134 : decode cX2_readClaim 134 = .ok (.ifCond .eq 7, 3) := by decide +kernel
theorem dX2_readClaim_137 : decode cX2_readClaim 137 = .ok (.iconst 1, 1) := by decide +kernel
theorem dX2_readClaim_138 : decode cX2_readClaim 138 = .ok (.goto 4, 3) := by decide +kernel
theorem dX2_readClaim_141 : decode cX2_readClaim 141 = .ok (.iconst 0, 1) := by decide +kernel
theorem dX2_readClaim_142 : decode cX2_readClaim 142 = .ok (.ireturn, 1) := by decide +kernel
theorem dX3_init_0 : decode cX3_init 0 = .ok (.aload_n 0, 1) := by decide +kernel
theorem dX3_init_1 : decode cX3_init 1 = .ok (.invokespecial 3, 3) := by decide +kernel
theorem dX3_init_4 : decode cX3_init 4 = .ok (.aload_n 0, 1) := by decide +kernel
theorem dX3_init_5 : decode cX3_init 5 = .ok (.iconst 5, 1) := by decide +kernel
theorem dX3_init_6 : decode cX3_init 6 = .ok (.iconst 5, 1) := by decide +kernel
theorem dX3_init_7 : decode cX3_init 7 = .ok (.multianewarray 9 2, 4) := by decide +kernel
theorem dX3_init_11 : decode cX3_init 11 = .ok (.putfield 11, 3) := by decide +kernel
theorem dX3_init_14 : decode cX3_init 14 = .ok (.aload_n 0, 1) := by decide +kernel
theorem dX3_init_15 : decode cX3_init 15 = .ok (.iconst 5, 1) := by decide +kernel
theorem dX3_init_16 : decode cX3_init 16 = .ok (.newarray .int, 2) := by decide +kernel
theorem dX3_init_18 : decode cX3_init 18 = .ok (.putfield 16, 3) := by decide +kernel
theorem dX3_init_21 : decode cX3_init 21 = .ok (.aload_n 0, 1) := by decide +kernel
theorem dX3_init_22 : decode cX3_init 22 = .ok (.iconst 5, 1) := by decide +kernel
theorem dX3_init_23 : decode cX3_init 23 = .ok (.newarray .long, 2) := by decide +kernel
theorem dX3_init_25 : decode cX3_init 25 = .ok (.putfield 20, 3) := by decide +kernel
theorem dX3_init_28 : decode cX3_init 28 = .ok (.return_, 1) := by decide +kernel
theorem dX3_take_0 : decode cX3_take 0 = .ok (.iconst 0, 1) := by decide +kernel
theorem dX3_take_1 : decode cX3_take 1 = .ok (.istore_n 2, 1) := by decide +kernel
theorem dX3_take_2 : decode cX3_take 2 = .ok (.iload_n 2, 1) := by decide +kernel
theorem dX3_take_3 : decode cX3_take 3 = .ok (.iconst 5, 1) := by decide +kernel
theorem dX3_take_4 : decode cX3_take 4 = .ok (.if_icmp .ge 25, 3) := by decide +kernel
theorem dX3_take_7 : decode cX3_take 7 = .ok (.iload_n 2, 1) := by decide +kernel
theorem dX3_take_8 : decode cX3_take 8 = .ok (.aload_n 1, 1) := by decide +kernel
theorem dX3_take_9 : decode cX3_take 9 = .ok (.arraylength, 1) := by decide +kernel
theorem dX3_take_10 : decode cX3_take 10 = .ok (.if_icmp .ge 19, 3) := by decide +kernel
theorem dX3_take_13 : decode cX3_take 13 = .ok (.aload_n 0, 1) := by decide +kernel
theorem dX3_take_14 : decode cX3_take 14 = .ok (.getfield 20, 3) := by decide +kernel
theorem dX3_take_17 : decode cX3_take 17 = .ok (.iload_n 2, 1) := by decide +kernel
theorem dX3_take_18 : decode cX3_take 18 = .ok (.aload_n 1, 1) := by decide +kernel
theorem dX3_take_19 : decode cX3_take 19 = .ok (.iload_n 2, 1) := by decide +kernel
theorem dX3_take_20 : decode cX3_take 20 = .ok (.iaload, 1) := by decide +kernel
theorem dX3_take_21 : decode cX3_take 21 = .ok (.i2l, 1) := by decide +kernel
theorem dX3_take_22 : decode cX3_take 22 = .ok (.lastore, 1) := by decide +kernel
theorem dX3_take_23 : decode cX3_take 23 = .ok (.iinc 2 1, 3) := by decide +kernel
theorem dX3_take_26 : decode cX3_take 26 = .ok (.goto (-24), 3) := by decide +kernel
theorem dX3_take_29 : decode cX3_take 29 = .ok (.return_, 1) := by decide +kernel
theorem dX3_descend_0 : decode cX3_descend 0 = .ok (.aload_n 0, 1) := by decide +kernel
theorem dX3_descend_1 : decode cX3_descend 1 = .ok (.getfield 24, 3) := by decide +kernel
theorem dX3_descend_4 : decode cX3_descend 4 = .ok (.ifCond .le 36, 3) := by decide +kernel
theorem dX3_descend_7 : decode cX3_descend 7 = .ok (.aload_n 0, 1) := by decide +kernel
theorem dX3_descend_8 : decode cX3_descend 8 = .ok (.getfield 24, 3) := by decide +kernel
theorem dX3_descend_11 : decode cX3_descend 11 = .ok (.iconst 5, 1) := by decide +kernel
theorem dX3_descend_12 : decode cX3_descend 12 = .ok (.if_icmp .gt 28, 3) := by decide +kernel
theorem dX3_descend_15 : decode cX3_descend 15 = .ok (.aload_n 0, 1) := by decide +kernel
theorem dX3_descend_16 : decode cX3_descend 16 = .ok (.getfield 11, 3) := by decide +kernel
theorem dX3_descend_19 : decode cX3_descend 19 = .ok (.aload_n 0, 1) := by decide +kernel
theorem dX3_descend_20 : decode cX3_descend 20 = .ok (.getfield 24, 3) := by decide +kernel
theorem dX3_descend_23 : decode cX3_descend 23 = .ok (.iconst 1, 1) := by decide +kernel
theorem dX3_descend_24 : decode cX3_descend 24 = .ok (.isub, 1) := by decide +kernel
theorem dX3_descend_25 : decode cX3_descend 25 = .ok (.aaload, 1) := by decide +kernel
theorem dX3_descend_26 : decode cX3_descend 26 = .ok (.iconst 0, 1) := by decide +kernel
theorem dX3_descend_27 : decode cX3_descend 27 = .ok (.aload_n 0, 1) := by decide +kernel
theorem dX3_descend_28 : decode cX3_descend 28 = .ok (.getfield 20, 3) := by decide +kernel
theorem dX3_descend_31 : decode cX3_descend 31 = .ok (.iconst 0, 1) := by decide +kernel
theorem dX3_descend_32 : decode cX3_descend 32 = .ok (.iconst 5, 1) := by decide +kernel
theorem dX3_descend_33 : decode cX3_descend 33 = .ok (.invokestatic 28, 3) := by decide +kernel
theorem dX3_descend_36 : decode cX3_descend 36 = .ok (.aload_n 0, 1) := by decide +kernel
theorem dX3_descend_37 : decode cX3_descend 37 = .ok (.invokevirtual 34, 3) := by decide +kernel
theorem dX3_descend_40 : decode cX3_descend 40 = .ok (.return_, 1) := by decide +kernel
theorem dX3_build_0 : decode cX3_build 0 = .ok (.aload_n 0, 1) := by decide +kernel
theorem dX3_build_1 : decode cX3_build 1 = .ok (.iconst 0, 1) := by decide +kernel
theorem dX3_build_2 : decode cX3_build 2 = .ok (.putfield 24, 3) := by decide +kernel
theorem dX3_build_5 : decode cX3_build 5 = .ok (.aload_n 0, 1) := by decide +kernel
theorem dX3_build_6 : decode cX3_build 6 = .ok (.invokevirtual 37, 3) := by decide +kernel
theorem dX3_build_9 : decode cX3_build 9 = .ok (.istore_n 1, 1) := by decide +kernel
theorem dX3_build_10 : decode cX3_build 10 = .ok (.iload_n 1, 1) := by decide +kernel
theorem dX3_build_11 : decode cX3_build 11 = .ok (.ifCond .eq 12, 3) := by decide +kernel
theorem dX3_build_14 : decode cX3_build 14 = .ok (.aload_n 0, 1) := by decide +kernel
theorem dX3_build_15 : decode cX3_build 15 = .ok (.invokevirtual 41, 3) := by decide +kernel
theorem dX3_build_18 : decode cX3_build 18 = .ok (.aload_n 0, 1) := by decide +kernel
theorem dX3_build_19 : decode cX3_build 19 = .ok (.invokevirtual 37, 3) := by decide +kernel
theorem dX3_build_22 : decode cX3_build 22 = .ok (.istore_n 1, 1) := by decide +kernel
theorem dX3_build_23 : decode cX3_build 23 = .ok (.iconst 2, 1) := by decide +kernel
theorem dX3_build_24 : decode cX3_build 24 = .ok (.istore_n 2, 1) := by decide +kernel
theorem dX3_build_25 : decode cX3_build 25 = .ok (.iload_n 1, 1) := by decide +kernel
theorem dX3_build_26 : decode cX3_build 26 = .ok (.ifCond .eq 23, 3) := by decide +kernel
theorem dX3_build_29 : decode cX3_build 29 = .ok (.iload_n 2, 1) := by decide +kernel
theorem dX3_build_30 : decode cX3_build 30 = .ok (.iconst 5, 1) := by decide +kernel
theorem dX3_build_31 : decode cX3_build 31 = .ok (.if_icmp .ge 18, 3) := by decide +kernel
theorem dX3_build_34 : decode cX3_build 34 = .ok (.aload_n 0, 1) := by decide +kernel
theorem dX3_build_35 : decode cX3_build 35 = .ok (.invokevirtual 44, 3) := by decide +kernel
theorem dX3_build_38 : decode cX3_build 38 = .ok (.aload_n 0, 1) := by decide +kernel
theorem dX3_build_39 : decode cX3_build 39 = .ok (.invokevirtual 37, 3) := by decide +kernel
theorem dX3_build_42 : decode cX3_build 42 = .ok (.istore_n 1, 1) := by decide +kernel
theorem dX3_build_43 : decode cX3_build 43 = .ok (.iinc 2 1, 3) := by decide +kernel
theorem dX3_build_46 : decode cX3_build 46 = .ok (.goto (-21), 3) := by decide +kernel
theorem dX3_build_49 : decode cX3_build 49 = .ok (.return_, 1) := by decide +kernel
theorem dX3_addWork_0 : decode cX3_addWork 0 = .ok (.iconst 4, 1) := by decide +kernel
theorem dX3_addWork_1 : decode cX3_addWork 1 = .ok (.istore_n 1, 1) := by decide +kernel
theorem dX3_addWork_2 : decode cX3_addWork 2 = .ok (.iload_n 1, 1) := by decide +kernel
theorem dX3_addWork_3 : decode cX3_addWork 3 = .ok (.ifCond .lt 20, 3) := by decide +kernel
theorem dX3_addWork_6 : decode cX3_addWork 6 = .ok (.aload_n 0, 1) := by decide +kernel
theorem dX3_addWork_7 : decode cX3_addWork 7 = .ok (.getfield 20, 3) := by decide +kernel
theorem dX3_addWork_10 : decode cX3_addWork 10 = .ok (.iload_n 1, 1) := by decide +kernel
theorem dX3_addWork_11 : decode cX3_addWork 11 = .ok (.laload, 1) := by decide +kernel
theorem dX3_addWork_12 : decode cX3_addWork 12 = .ok (.lconst 0, 1) := by decide +kernel
theorem dX3_addWork_13 : decode cX3_addWork 13 = .ok (.lcmp, 1) := by decide +kernel
theorem dX3_addWork_14 : decode cX3_addWork 14 = .ok (.ifCond .ne 9, 3) := by decide +kernel
theorem dX3_addWork_17 : decode cX3_addWork 17 = .ok (.iinc 1 (-1), 3) := by decide +kernel
theorem dX3_addWork_20 : decode cX3_addWork 20 = .ok (.goto (-18), 3) := by decide +kernel
theorem dX3_addWork_23 : decode cX3_addWork 23 = .ok (.iload_n 1, 1) := by decide +kernel
theorem dX3_addWork_24 : decode cX3_addWork 24 = .ok (.ifCond .lt 11, 3) := by decide +kernel
theorem dX3_addWork_27 : decode cX3_addWork 27 = .ok (.aload_n 0, 1) := by decide +kernel
theorem dX3_addWork_28 : decode cX3_addWork 28 = .ok (.getfield 24, 3) := by decide +kernel
theorem dX3_addWork_31 : decode cX3_addWork 31 = .ok (.iconst 5, 1) := by decide +kernel
theorem dX3_addWork_32 : decode cX3_addWork 32 = .ok (.if_icmp .lt 5, 3) := by decide +kernel
theorem dX3_addWork_35 : decode cX3_addWork 35 = .ok (.iconst 0, 1) := by decide +kernel
theorem dX3_addWork_36 : decode cX3_addWork 36 = .ok (.ireturn, 1) := by decide +kernel
theorem dX3_addWork_37 : decode cX3_addWork 37 = .ok (.aload_n 0, 1) := by decide +kernel
theorem dX3_addWork_38 : decode cX3_addWork 38 = .ok (.invokevirtual 47, 3) := by decide +kernel
theorem dX3_addWork_41 : decode cX3_addWork 41 = .ok (.aload_n 0, 1) := by decide +kernel
theorem dX3_addWork_42 : decode cX3_addWork 42 = .ok (.getfield 20, 3) := by decide +kernel
theorem dX3_addWork_45 : decode cX3_addWork 45 = .ok (.iconst 0, 1) := by decide +kernel
theorem dX3_addWork_46 : decode cX3_addWork 46 = .ok (.aload_n 0, 1) := by decide +kernel
theorem dX3_addWork_47 : decode cX3_addWork 47 = .ok (.getfield 11, 3) := by decide +kernel
theorem dX3_addWork_50 : decode cX3_addWork 50 = .ok (.aload_n 0, 1) := by decide +kernel
theorem dX3_addWork_51 : decode cX3_addWork 51 = .ok (.getfield 24, 3) := by decide +kernel
theorem dX3_addWork_54 : decode cX3_addWork 54 = .ok (.aaload, 1) := by decide +kernel
theorem dX3_addWork_55 : decode cX3_addWork 55 = .ok (.iconst 0, 1) := by decide +kernel
theorem dX3_addWork_56 : decode cX3_addWork 56 = .ok (.iconst 5, 1) := by decide +kernel
theorem dX3_addWork_57 : decode cX3_addWork 57 = .ok (.invokestatic 28, 3) := by decide +kernel
theorem dX3_addWork_60 : decode cX3_addWork 60 = .ok (.aload_n 0, 1) := by decide +kernel
theorem dX3_addWork_61 : decode cX3_addWork 61 = .ok (.getfield 16, 3) := by decide +kernel
theorem dX3_addWork_64 : decode cX3_addWork 64 = .ok (.aload_n 0, 1) := by decide +kernel
theorem dX3_addWork_65 : decode cX3_addWork 65 = .ok (.getfield 24, 3) := by decide +kernel
theorem dX3_addWork_68 : decode cX3_addWork 68 = .ok (.iload_n 1, 1) := by decide +kernel
theorem dX3_addWork_69 : decode cX3_addWork 69 = .ok (.iastore, 1) := by decide +kernel
theorem dX3_addWork_70 : decode cX3_addWork 70 = .ok (.aload_n 0, 1) := by decide +kernel
theorem dX3_addWork_71 : decode cX3_addWork 71 = .ok (.dup, 1) := by decide +kernel
theorem dX3_addWork_72 : decode cX3_addWork 72 = .ok (.getfield 24, 3) := by decide +kernel
theorem dX3_addWork_75 : decode cX3_addWork 75 = .ok (.iconst 1, 1) := by decide +kernel
theorem dX3_addWork_76 : decode cX3_addWork 76 = .ok (.iadd, 1) := by decide +kernel
theorem dX3_addWork_77 : decode cX3_addWork 77 = .ok (.putfield 24, 3) := by decide +kernel
theorem dX3_addWork_80 : decode cX3_addWork 80 = .ok (.iconst 1, 1) := by decide +kernel
theorem dX3_addWork_81 : decode cX3_addWork 81 = .ok (.ireturn, 1) := by decide +kernel
theorem dX3_derive_0 : decode cX3_derive 0 = .ok (.iconst 1, 1) := by decide +kernel
theorem dX3_derive_1 : decode cX3_derive 1 = .ok (.istore_n 1, 1) := by decide +kernel
theorem dX3_derive_2 : decode cX3_derive 2 = .ok (.iload_n 1, 1) := by decide +kernel
theorem dX3_derive_3 : decode cX3_derive 3 = .ok (.iconst 5, 1) := by decide +kernel
theorem dX3_derive_4 : decode cX3_derive 4 = .ok (.if_icmp .ge 28, 3) := by decide +kernel
theorem dX3_derive_7 : decode cX3_derive 7 = .ok (.aload_n 0, 1) := by decide +kernel
theorem dX3_derive_8 : decode cX3_derive 8 = .ok (.getfield 20, 3) := by decide +kernel
theorem dX3_derive_11 : decode cX3_derive 11 = .ok (.iload_n 1, 1) := by decide +kernel
theorem dX3_derive_12 : decode cX3_derive 12 = .ok (.iconst 1, 1) := by decide +kernel
theorem dX3_derive_13 : decode cX3_derive 13 = .ok (.isub, 1) := by decide +kernel
theorem dX3_derive_14 : decode cX3_derive 14 = .ok (.iload_n 1, 1) := by decide +kernel
theorem dX3_derive_15 : decode cX3_derive 15 = .ok (.i2l, 1) := by decide +kernel
theorem dX3_derive_16 : decode cX3_derive 16 = .ok (.aload_n 0, 1) := by decide +kernel
theorem dX3_derive_17 : decode cX3_derive 17 = .ok (.getfield 11, 3) := by decide +kernel
theorem dX3_derive_20 : decode cX3_derive 20 = .ok (.iconst 0, 1) := by decide +kernel
theorem dX3_derive_21 : decode cX3_derive 21 = .ok (.aaload, 1) := by decide +kernel
theorem dX3_derive_22 : decode cX3_derive 22 = .ok (.iload_n 1, 1) := by decide +kernel
theorem dX3_derive_23 : decode cX3_derive 23 = .ok (.laload, 1) := by decide +kernel
theorem dX3_derive_24 : decode cX3_derive 24 = .ok (.lmul, 1) := by decide +kernel
theorem dX3_derive_25 : decode cX3_derive 25 = .ok (.lastore, 1) := by decide +kernel
theorem dX3_derive_26 : decode cX3_derive 26 = .ok (.iinc 1 1, 3) := by decide +kernel
theorem dX3_derive_29 : decode cX3_derive 29 = .ok (.goto (-27), 3) := by decide +kernel
theorem dX3_derive_32 : decode cX3_derive 32 = .ok (.aload_n 0, 1) := by decide +kernel
theorem dX3_derive_33 : decode cX3_derive 33 = .ok (.getfield 20, 3) := by decide +kernel
theorem dX3_derive_36 : decode cX3_derive 36 = .ok (.iconst 4, 1) := by decide +kernel
theorem dX3_derive_37 : decode cX3_derive 37 = .ok (.lconst 0, 1) := by decide +kernel
theorem dX3_derive_38 : decode cX3_derive 38 = .ok (.lastore, 1) := by decide +kernel
theorem dX3_derive_39 : decode cX3_derive 39 = .ok (.return_, 1) := by decide +kernel
theorem dX3_divide_0 : decode cX3_divide 0 = .ok (.aload_n 0, 1) := by decide +kernel
theorem dX3_divide_1 : decode cX3_divide 1 = .ok (.getfield 24, 3) := by decide +kernel
theorem dX3_divide_4 : decode cX3_divide 4 = .ok (.iconst 2, 1) := by decide +kernel
theorem dX3_divide_5 : decode cX3_divide 5 = .ok (.if_icmp .lt 11, 3) := by decide +kernel
theorem dX3_divide_8 : decode cX3_divide 8 = .ok (.aload_n 0, 1) := by decide +kernel
theorem dX3_divide_9 : decode cX3_divide 9 = .ok (.getfield 24, 3) := by decide +kernel
theorem dX3_divide_12 : decode cX3_divide 12 = .ok (.iconst 5, 1) := by decide +kernel
theorem dX3_divide_13 : decode cX3_divide 13 = .ok (.if_icmp .le 4, 3) := by decide +kernel
theorem dX3_divide_16 : decode cX3_divide 16 = .ok (.return_, 1) := by decide +kernel
theorem dX3_divide_17 : decode cX3_divide 17 = .ok (.aload_n 0, 1) := by decide +kernel
theorem dX3_divide_18 : decode cX3_divide 18 = .ok (.getfield 11, 3) := by decide +kernel
theorem dX3_divide_21 : decode cX3_divide 21 = .ok (.aload_n 0, 1) := by decide +kernel
theorem dX3_divide_22 : decode cX3_divide 22 = .ok (.getfield 24, 3) := by decide +kernel
theorem dX3_divide_25 : decode cX3_divide 25 = .ok (.iconst 1, 1) := by decide +kernel
theorem dX3_divide_26 : decode cX3_divide 26 = .ok (.isub, 1) := by decide +kernel
theorem dX3_divide_27 : decode cX3_divide 27 = .ok (.aaload, 1) := by decide +kernel
theorem dX3_divide_28 : decode cX3_divide 28 = .ok (.astore_n 1, 1) := by decide +kernel
theorem dX3_divide_29 : decode cX3_divide 29 = .ok (.aload_n 0, 1) := by decide +kernel
theorem dX3_divide_30 : decode cX3_divide 30 = .ok (.getfield 16, 3) := by decide +kernel
theorem dX3_divide_33 : decode cX3_divide 33 = .ok (.aload_n 0, 1) := by decide +kernel
theorem dX3_divide_34 : decode cX3_divide 34 = .ok (.getfield 24, 3) := by decide +kernel
theorem dX3_divide_37 : decode cX3_divide 37 = .ok (.iconst 1, 1) := by decide +kernel
theorem dX3_divide_38 : decode cX3_divide 38 = .ok (.isub, 1) := by decide +kernel
theorem dX3_divide_39 : decode cX3_divide 39 = .ok (.iaload, 1) := by decide +kernel
theorem dX3_divide_40 : decode cX3_divide 40 = .ok (.istore_n 2, 1) := by decide +kernel
theorem dX3_divide_41 : decode cX3_divide 41 = .ok (.aload_n 0, 1) := by decide +kernel
theorem dX3_divide_42 : decode cX3_divide 42 = .ok (.getfield 11, 3) := by decide +kernel
theorem dX3_divide_45 : decode cX3_divide 45 = .ok (.aload_n 0, 1) := by decide +kernel
theorem dX3_divide_46 : decode cX3_divide 46 = .ok (.getfield 24, 3) := by decide +kernel
theorem dX3_divide_49 : decode cX3_divide 49 = .ok (.iconst 2, 1) := by decide +kernel
theorem dX3_divide_50 : decode cX3_divide 50 = .ok (.isub, 1) := by decide +kernel
theorem dX3_divide_51 : decode cX3_divide 51 = .ok (.aaload, 1) := by decide +kernel
theorem dX3_divide_52 : decode cX3_divide 52 = .ok (.iconst 0, 1) := by decide +kernel
theorem dX3_divide_53 : decode cX3_divide 53 = .ok (.aload_n 0, 1) := by decide +kernel
theorem dX3_divide_54 : decode cX3_divide 54 = .ok (.getfield 20, 3) := by decide +kernel
theorem dX3_divide_57 : decode cX3_divide 57 = .ok (.iconst 0, 1) := by decide +kernel
theorem dX3_divide_58 : decode cX3_divide 58 = .ok (.iconst 5, 1) := by decide +kernel
theorem dX3_divide_59 : decode cX3_divide 59 = .ok (.invokestatic 28, 3) := by decide +kernel
theorem dX3_divide_62 : decode cX3_divide 62 = .ok (.aload_n 0, 1) := by decide +kernel
theorem dX3_divide_63 : decode cX3_divide 63 = .ok (.getfield 16, 3) := by decide +kernel
theorem dX3_divide_66 : decode cX3_divide 66 = .ok (.aload_n 0, 1) := by decide +kernel
theorem dX3_divide_67 : decode cX3_divide 67 = .ok (.getfield 24, 3) := by decide +kernel
theorem dX3_divide_70 : decode cX3_divide 70 = .ok (.iconst 2, 1) := by decide +kernel
theorem dX3_divide_71 : decode cX3_divide 71 = .ok (.isub, 1) := by decide +kernel
theorem dX3_divide_72 : decode cX3_divide 72 = .ok (.iaload, 1) := by decide +kernel
theorem dX3_divide_73 : decode cX3_divide 73 = .ok (.istore_n 3, 1) := by decide +kernel
theorem dX3_divide_74 : decode cX3_divide 74 = .ok (.iload_n 3, 1) := by decide +kernel
theorem dX3_divide_75 : decode cX3_divide 75 = .ok (.iload_n 2, 1) := by decide +kernel
theorem dX3_divide_76 : decode cX3_divide 76 = .ok (.if_icmp .lt 16, 3) := by decide +kernel
theorem dX3_divide_79 : decode cX3_divide 79 = .ok (.aload_n 0, 1) := by decide +kernel
theorem dX3_divide_80 : decode cX3_divide 80 = .ok (.iload_n 3, 1) := by decide +kernel
theorem dX3_divide_81 : decode cX3_divide 81 = .ok (.aload_n 1, 1) := by decide +kernel
theorem dX3_divide_82 : decode cX3_divide 82 = .ok (.iload_n 2, 1) := by decide +kernel
theorem dX3_divide_83 : decode cX3_divide 83 = .ok (.invokevirtual 50, 3) := by decide +kernel
theorem dX3_divide_86 : decode cX3_divide 86 = .ok (.iinc 3 (-1), 3) := by decide +kernel
theorem dX3_divide_89 : decode cX3_divide 89 = .ok (.goto (-15), 3) := by decide +kernel
theorem dX3_divide_92 : decode cX3_divide 92 = .ok (.iconst 0, 1) := by decide +kernel
theorem dX3_divide_93 : decode cX3_divide 93 = .ok (.istore_n 3, 1) := by decide +kernel
theorem dX3_divide_94 : decode cX3_divide 94 = .ok (.iload_n 3, 1) := by decide +kernel
theorem dX3_divide_95 : decode cX3_divide 95 = .ok (.iconst 5, 1) := by decide +kernel
theorem dX3_divide_96 : decode cX3_divide 96 = .ok (.if_icmp .ge 22, 3) := by decide +kernel
theorem dX3_divide_99 : decode cX3_divide 99 = .ok (.aload_n 0, 1) := by decide +kernel
theorem dX3_divide_100 : decode cX3_divide 100 = .ok (.getfield 20, 3) := by decide +kernel
theorem dX3_divide_103 : decode cX3_divide 103 = .ok (.iload_n 3, 1) := by decide +kernel
theorem dX3_divide_104 : decode cX3_divide 104 = .ok (.aload_n 0, 1) := by decide +kernel
theorem dX3_divide_105 : decode cX3_divide 105 = .ok (.getfield 20, 3) := by decide +kernel
theorem dX3_divide_108 : decode cX3_divide 108 = .ok (.iload_n 3, 1) := by decide +kernel
theorem dX3_divide_109 : decode cX3_divide 109 = .ok (.laload, 1) := by decide +kernel
theorem dX3_divide_110 : decode cX3_divide 110 = .ok (.lneg, 1) := by decide +kernel
theorem dX3_divide_111 : decode cX3_divide 111 = .ok (.lastore, 1) := by decide +kernel
theorem dX3_divide_112 : decode cX3_divide 112 = .ok (.iinc 3 1, 3) := by decide +kernel
theorem dX3_divide_115 : decode cX3_divide 115 = .ok (.goto (-21), 3) := by decide +kernel
theorem dX3_divide_118 : decode cX3_divide 118 = .ok (.return_, 1) := by decide +kernel
theorem dX3_cancel_0 : decode cX3_cancel 0 = .ok (.iload_n 3, 1) := by decide +kernel
theorem dX3_cancel_1 : decode cX3_cancel 1 = .ok (.ifCond .lt 19, 3) := by decide +kernel
theorem dX3_cancel_4 : decode cX3_cancel 4 = .ok (.iload_n 3, 1) := by decide +kernel
theorem dX3_cancel_5 : decode cX3_cancel 5 = .ok (.iload_n 1, 1) := by decide +kernel
theorem dX3_cancel_6 : decode cX3_cancel 6 = .ok (.if_icmp .gt 14, 3) := by decide +kernel
theorem dX3_cancel_9 : decode cX3_cancel 9 = .ok (.iload_n 1, 1) := by decide +kernel
theorem dX3_cancel_10 : decode cX3_cancel 10 = .ok (.iconst 5, 1) := by decide +kernel
theorem dX3_cancel_11 : decode cX3_cancel 11 = .ok (.if_icmp .ge 9, 3) := by decide +kernel
theorem dX3_cancel_14 : decode cX3_cancel 14 = .ok (.iload_n 1, 1) := by decide +kernel
theorem dX3_cancel_15 : decode cX3_cancel 15 = .ok (.aload_n 2, 1) := by decide +kernel
theorem dX3_cancel_16 : decode cX3_cancel 16 = .ok (.arraylength, 1) := by decide +kernel
theorem dX3_cancel_17 : decode cX3_cancel 17 = .ok (.if_icmp .lt 4, 3) := by decide +kernel
theorem dX3_cancel_20 : decode cX3_cancel 20 = .ok (.return_, 1) := by decide +kernel
theorem dX3_cancel_21 : decode cX3_cancel 21 = .ok (.aload_n 2, 1) := by decide +kernel
theorem dX3_cancel_22 : decode cX3_cancel 22 = .ok (.iload_n 3, 1) := by decide +kernel
theorem dX3_cancel_23 : decode cX3_cancel 23 = .ok (.laload, 1) := by decide +kernel
theorem dX3_cancel_24 : decode cX3_cancel 24 = .ok (.invokestatic 54, 3) := by decide +kernel
theorem dX3_cancel_27 : decode cX3_cancel 27 = .ok (.lstore 4, 2) := by decide +kernel
theorem dX3_cancel_29 : decode cX3_cancel 29 = .ok (.aload_n 2, 1) := by decide +kernel
theorem dX3_cancel_30 : decode cX3_cancel 30 = .ok (.iload_n 3, 1) := by decide +kernel
theorem dX3_cancel_31 : decode cX3_cancel 31 = .ok (.laload, 1) := by decide +kernel
theorem dX3_cancel_32 : decode cX3_cancel 32 = .ok (.lconst 0, 1) := by decide +kernel
theorem dX3_cancel_33 : decode cX3_cancel 33 = .ok (.lcmp, 1) := by decide +kernel
theorem dX3_cancel_34 : decode cX3_cancel 34 = .ok (.ifCond .le 12, 3) := by decide +kernel
theorem dX3_cancel_37 : decode cX3_cancel 37 = .ok (.aload_n 0, 1) := by decide +kernel
theorem dX3_cancel_38 : decode cX3_cancel 38 = .ok (.getfield 20, 3) := by decide +kernel
theorem dX3_cancel_41 : decode cX3_cancel 41 = .ok (.iload_n 1, 1) := by decide +kernel
theorem dX3_cancel_42 : decode cX3_cancel 42 = .ok (.laload, 1) := by decide +kernel
theorem dX3_cancel_43 : decode cX3_cancel 43 = .ok (.goto 10, 3) := by decide +kernel
theorem dX3_cancel_46 : decode cX3_cancel 46 = .ok (.aload_n 0, 1) := by decide +kernel
theorem dX3_cancel_47 : decode cX3_cancel 47 = .ok (.getfield 20, 3) := by decide +kernel
theorem dX3_cancel_50 : decode cX3_cancel 50 = .ok (.iload_n 1, 1) := by decide +kernel
theorem dX3_cancel_51 : decode cX3_cancel 51 = .ok (.laload, 1) := by decide +kernel
theorem dX3_cancel_52 : decode cX3_cancel 52 = .ok (.lneg, 1) := by decide +kernel
theorem dX3_cancel_53 : decode cX3_cancel 53 = .ok (.lstore 6, 2) := by decide +kernel
theorem dX3_cancel_55 : decode cX3_cancel 55 = .ok (.aload_n 0, 1) := by decide +kernel
theorem dX3_cancel_56 : decode cX3_cancel 56 = .ok (.getfield 20, 3) := by decide +kernel
theorem dX3_cancel_59 : decode cX3_cancel 59 = .ok (.iload_n 1, 1) := by decide +kernel
theorem dX3_cancel_60 : decode cX3_cancel 60 = .ok (.lconst 0, 1) := by decide +kernel
theorem dX3_cancel_61 : decode cX3_cancel 61 = .ok (.lastore, 1) := by decide +kernel
theorem dX3_cancel_62 : decode cX3_cancel 62 = .ok (.iload_n 3, 1) := by decide +kernel
theorem dX3_cancel_63 : decode cX3_cancel 63 = .ok (.iconst 1, 1) := by decide +kernel
theorem dX3_cancel_64 : decode cX3_cancel 64 = .ok (.if_icmp .ne 33, 3) := by decide +kernel
theorem dX3_cancel_67 : decode cX3_cancel 67 = .ok (.iload_n 1, 1) := by decide +kernel
theorem dX3_cancel_68 : decode cX3_cancel 68 = .ok (.iconst 1, 1) := by decide +kernel
theorem dX3_cancel_69 : decode cX3_cancel 69 = .ok (.if_icmp .ne 28, 3) := by decide +kernel
theorem dX3_cancel_72 : decode cX3_cancel 72 = .ok (.aload_n 0, 1) := by decide +kernel
theorem dX3_cancel_73 : decode cX3_cancel 73 = .ok (.getfield 20, 3) := by decide +kernel
theorem dX3_cancel_76 : decode cX3_cancel 76 = .ok (.iconst 0, 1) := by decide +kernel
theorem dX3_cancel_77 : decode cX3_cancel 77 = .ok (.lload 4, 2) := by decide +kernel
theorem dX3_cancel_79 : decode cX3_cancel 79 = .ok (.aload_n 0, 1) := by decide +kernel
theorem dX3_cancel_80 : decode cX3_cancel 80 = .ok (.getfield 20, 3) := by decide +kernel
theorem dX3_cancel_83 : decode cX3_cancel 83 = .ok (.iconst 0, 1) := by decide +kernel
theorem dX3_cancel_84 : decode cX3_cancel 84 = .ok (.laload, 1) := by decide +kernel
theorem dX3_cancel_85 : decode cX3_cancel 85 = .ok (.aload_n 2, 1) := by decide +kernel
theorem dX3_cancel_86 : decode cX3_cancel 86 = .ok (.iconst 0, 1) := by decide +kernel
theorem dX3_cancel_87 : decode cX3_cancel 87 = .ok (.laload, 1) := by decide +kernel
theorem dX3_cancel_88 : decode cX3_cancel 88 = .ok (.lneg, 1) := by decide +kernel
theorem dX3_cancel_89 : decode cX3_cancel 89 = .ok (.lload 6, 2) := by decide +kernel
theorem dX3_cancel_91 : decode cX3_cancel 91 = .ok (.invokestatic 60, 3) := by decide +kernel
theorem dX3_cancel_94 : decode cX3_cancel 94 = .ok (.i2l, 1) := by decide +kernel
theorem dX3_cancel_95 : decode cX3_cancel 95 = .ok (.lastore, 1) := by decide +kernel
theorem dX3_cancel_96 : decode cX3_cancel 96 = .ok (.return_, 1) := by decide +kernel
theorem dX3_cancel_97 : decode cX3_cancel 97 = .ok (.iconst 0, 1) := by decide +kernel
theorem dX3_cancel_98 : decode cX3_cancel 98 = .ok (.istore 8, 2) := by decide +kernel
theorem dX3_cancel_100 : decode cX3_cancel 100 = .ok (.iload 8, 2) := by decide +kernel
theorem dX3_cancel_102 : decode cX3_cancel 102 = .ok (.iload_n 1, 1) := by decide +kernel
theorem dX3_cancel_103 : decode cX3_cancel 103 = .ok (.if_icmp .ge 21, 3) := by decide +kernel
theorem dX3_cancel_106 : decode cX3_cancel 106 = .ok (.aload_n 0, 1) := by decide +kernel
theorem dX3_cancel_107 : decode cX3_cancel 107 = .ok (.getfield 20, 3) := by decide +kernel
theorem dX3_cancel_110 : decode cX3_cancel 110 = .ok (.iload 8, 2) := by decide +kernel
theorem dX3_cancel_112 : decode cX3_cancel 112 = .ok (.dup2, 1) := by decide +kernel
theorem dX3_cancel_113 : decode cX3_cancel 113 = .ok (.laload, 1) := by decide +kernel
theorem dX3_cancel_114 : decode cX3_cancel 114 = .ok (.lload 4, 2) := by decide +kernel
theorem dX3_cancel_116 : decode cX3_cancel 116 = .ok (.lmul, 1) := by decide +kernel
theorem dX3_cancel_117 : decode cX3_cancel 117 = .ok (.lastore, 1) := by decide +kernel
theorem dX3_cancel_118 : decode cX3_cancel 118 = .ok (.iinc 8 1, 3) := by decide +kernel
theorem dX3_cancel_121 : decode cX3_cancel 121 = .ok (.goto (-21), 3) := by decide +kernel
theorem dX3_cancel_124 : decode cX3_cancel 124 = .ok (.iconst 0, 1) := by decide +kernel
theorem dX3_cancel_125 : decode cX3_cancel 125 = .ok (.istore 8, 2) := by decide +kernel
theorem dX3_cancel_127 : decode cX3_cancel 127 = .ok (.iload 8, 2) := by decide +kernel
theorem dX3_cancel_129 : decode cX3_cancel 129 = .ok (.iload_n 3, 1) := by decide +kernel
theorem dX3_cancel_130 : decode cX3_cancel 130 = .ok (.if_icmp .ge 30, 3) := by decide +kernel
theorem dX3_cancel_133 : decode cX3_cancel 133 = .ok (.aload_n 0, 1) := by decide +kernel
theorem dX3_cancel_134 : decode cX3_cancel 134 = .ok (.getfield 20, 3) := by decide +kernel
theorem dX3_cancel_137 : decode cX3_cancel 137 = .ok (.iload_n 1, 1) := by decide +kernel
theorem dX3_cancel_138 : decode cX3_cancel 138 = .ok (.iload_n 3, 1) := by decide +kernel
theorem dX3_cancel_139 : decode cX3_cancel 139 = .ok (.isub, 1) := by decide +kernel
theorem dX3_cancel_140 : decode cX3_cancel 140 = .ok (.iload 8, 2) := by decide +kernel
theorem dX3_cancel_142 : decode cX3_cancel 142 = .ok (.iadd, 1) := by decide +kernel
theorem dX3_cancel_143 : decode cX3_cancel 143 = .ok (.dup2, 1) := by decide +kernel
theorem dX3_cancel_144 : decode cX3_cancel 144 = .ok (.laload, 1) := by decide +kernel
theorem dX3_cancel_145 : decode cX3_cancel 145 = .ok (.lload 6, 2) := by decide +kernel
theorem dX3_cancel_147 : decode cX3_cancel 147 = .ok (.aload_n 2, 1) := by decide +kernel
theorem dX3_cancel_148 : decode cX3_cancel 148 = .ok (.iload 8, 2) := by decide +kernel
theorem dX3_cancel_150 : decode cX3_cancel 150 = .ok (.laload, 1) := by decide +kernel
theorem dX3_cancel_151 : decode cX3_cancel 151 = .ok (.lmul, 1) := by decide +kernel
theorem dX3_cancel_152 : decode cX3_cancel 152 = .ok (.lsub, 1) := by decide +kernel
theorem dX3_cancel_153 : decode cX3_cancel 153 = .ok (.lastore, 1) := by decide +kernel
theorem dX3_cancel_154 : decode cX3_cancel 154 = .ok (.iinc 8 1, 3) := by decide +kernel
theorem dX3_cancel_157 : decode cX3_cancel 157 = .ok (.goto (-30), 3) := by decide +kernel
theorem dX3_cancel_160 : decode cX3_cancel 160 = .ok (.return_, 1) := by decide +kernel
theorem dX3_signOfSum_0 : decode cX3_signOfSum 0 = .ok (.ldc2_w 64, 3) := by decide +kernel
theorem dX3_signOfSum_3 : decode cX3_signOfSum 3 = .ok (.lstore 8, 2) := by decide +kernel
theorem dX3_signOfSum_5 : decode cX3_signOfSum 5 = .ok (.lload_n 0, 1) := by decide +kernel
theorem dX3_signOfSum_6 : decode cX3_signOfSum 6 = .ok (.lload_n 2, 1) := by decide +kernel
theorem dX3_signOfSum_7 : decode cX3_signOfSum 7 = .ok (.lload 8, 2) := by decide +kernel
theorem dX3_signOfSum_9 : decode cX3_signOfSum 9 = .ok (.land, 1) := by decide +kernel
theorem dX3_signOfSum_10 : decode cX3_signOfSum 10 = .ok (.lmul, 1) := by decide +kernel
theorem dX3_signOfSum_11 : decode cX3_signOfSum 11 = .ok (.lload 4, 2) := by decide +kernel
theorem dX3_signOfSum_13 : decode cX3_signOfSum 13 = .ok (.lload 6, 2) := by decide +kernel
theorem dX3_signOfSum_15 : decode cX3_signOfSum 15 = .ok (.lload 8, 2) := by decide +kernel
theorem dX3_signOfSum_17 : decode cX3_signOfSum 17 = .ok (.land, 1) := by decide +kernel
theorem dX3_signOfSum_18 : decode cX3_signOfSum 18 = .ok (.lmul, 1) := by decide +kernel
theorem dX3_signOfSum_19 : decode cX3_signOfSum 19 = .ok (.ladd, 1) := by decide +kernel
theorem dX3_signOfSum_20 : decode cX3_signOfSum 20 = .ok (.lstore 10, 2) := by decide +kernel
theorem dX3_signOfSum_22 : decode cX3_signOfSum 22 = .ok (.lload_n 0, 1) := by decide +kernel
theorem dX3_signOfSum_23 : decode cX3_signOfSum 23 = .ok (.lload_n 2, 1) := by decide +kernel
theorem dX3_signOfSum_24 : decode cX3_signOfSum 24 = .ok (.bipush 26, 2) := by decide +kernel
theorem dX3_signOfSum_26 : decode cX3_signOfSum 26 = .ok (.lshr, 1) := by decide +kernel
theorem dX3_signOfSum_27 : decode cX3_signOfSum 27 = .ok (.lmul, 1) := by decide +kernel
theorem dX3_signOfSum_28 : decode cX3_signOfSum 28 = .ok (.lload 4, 2) := by decide +kernel
theorem dX3_signOfSum_30 : decode cX3_signOfSum 30 = .ok (.lload 6, 2) := by decide +kernel
theorem dX3_signOfSum_32 : decode cX3_signOfSum 32 = .ok (.bipush 26, 2) := by decide +kernel
theorem dX3_signOfSum_34 : decode cX3_signOfSum 34 = .ok (.lshr, 1) := by decide +kernel
theorem dX3_signOfSum_35 : decode cX3_signOfSum 35 = .ok (.lmul, 1) := by decide +kernel
theorem dX3_signOfSum_36 : decode cX3_signOfSum 36 = .ok (.ladd, 1) := by decide +kernel
theorem dX3_signOfSum_37 : decode cX3_signOfSum 37 = .ok (.lload 10, 2) := by decide +kernel
theorem dX3_signOfSum_39 : decode cX3_signOfSum 39 = .ok (.bipush 26, 2) := by decide +kernel
theorem dX3_signOfSum_41 : decode cX3_signOfSum 41 = .ok (.lshr, 1) := by decide +kernel
theorem dX3_signOfSum_42 : decode cX3_signOfSum 42 = .ok (.ladd, 1) := by decide +kernel
theorem dX3_signOfSum_43 : decode cX3_signOfSum 43 = .ok (.lstore 12, 2) := by decide +kernel
theorem dX3_signOfSum_45 : decode cX3_signOfSum 45 = .ok (.lload 12, 2) := by decide +kernel
theorem dX3_signOfSum_47 : decode cX3_signOfSum 47 = .ok (.lconst 0, 1) := by decide +kernel
theorem dX3_signOfSum_48 : decode cX3_signOfSum 48 = .ok (.lcmp, 1) := by decide +kernel
theorem dX3_signOfSum_49 : decode cX3_signOfSum 49 = .ok (.ifCond .eq 16, 3) := by decide +kernel
theorem dX3_signOfSum_52 : decode cX3_signOfSum 52 = .ok (.lload 12, 2) := by decide +kernel
theorem dX3_signOfSum_54 : decode cX3_signOfSum 54 = .ok (.lconst 0, 1) := by decide +kernel
theorem dX3_signOfSum_55 : decode cX3_signOfSum 55 = .ok (.lcmp, 1) := by decide +kernel
theorem dX3_signOfSum_56 : decode cX3_signOfSum 56 = .ok (.ifCond .le 7, 3) := by decide +kernel
theorem dX3_signOfSum_59 : decode cX3_signOfSum 59 = .ok (.iconst 1, 1) := by decide +kernel
theorem dX3_signOfSum_60 : decode cX3_signOfSum 60 = .ok (.goto 4, 3) := by decide +kernel
theorem dX3_signOfSum_63 : decode cX3_signOfSum 63 = .ok (.iconst (-1), 1) := by decide +kernel
theorem dX3_signOfSum_64 : decode cX3_signOfSum 64 = .ok (.ireturn, 1) := by decide +kernel
theorem dX3_signOfSum_65 : decode cX3_signOfSum 65 = .ok (.lload 10, 2) := by decide +kernel
theorem dX3_signOfSum_67 : decode cX3_signOfSum 67 = .ok (.lload 8, 2) := by decide +kernel
theorem dX3_signOfSum_69 : decode cX3_signOfSum 69 = .ok (.land, 1) := by decide +kernel
theorem dX3_signOfSum_70 : decode cX3_signOfSum 70 = .ok (.lconst 0, 1) := by decide +kernel
theorem dX3_signOfSum_71 : decode cX3_signOfSum 71 = .ok (.lcmp, 1) := by decide +kernel
theorem dX3_signOfSum_72 : decode cX3_signOfSum 72 = .ok (.ifCond .eq 7, 3) := by decide +kernel
theorem dX3_signOfSum_75 : decode cX3_signOfSum 75 = .ok (.iconst 1, 1) := by decide +kernel
theorem dX3_signOfSum_76 : decode cX3_signOfSum 76 = .ok (.goto 4, 3) := by decide +kernel
theorem dX3_signOfSum_79 : decode cX3_signOfSum 79 = .ok (.iconst 0, 1) := by decide +kernel
theorem dX3_signOfSum_80 : decode cX3_signOfSum 80 = .ok (.ireturn, 1) := by decide +kernel
theorem dX3_reduce_0 : decode cX3_reduce 0 = .ok (.lconst 0, 1) := by decide +kernel
theorem dX3_reduce_1 : decode cX3_reduce 1 = .ok (.lstore_n 1, 1) := by decide +kernel
theorem dX3_reduce_2 : decode cX3_reduce 2 = .ok (.iconst 0, 1) := by decide +kernel
theorem dX3_reduce_3 : decode cX3_reduce 3 = .ok (.istore_n 3, 1) := by decide +kernel
theorem dX3_reduce_4 : decode cX3_reduce 4 = .ok (.iload_n 3, 1) := by decide +kernel
theorem dX3_reduce_5 : decode cX3_reduce 5 = .ok (.iconst 5, 1) := by decide +kernel
theorem dX3_reduce_6 : decode cX3_reduce 6 = .ok (.if_icmp .ge 57, 3) := by decide +kernel
theorem dX3_reduce_9 : decode cX3_reduce 9 = .ok (.aload_n 0, 1) := by decide +kernel
theorem dX3_reduce_10 : decode cX3_reduce 10 = .ok (.getfield 20, 3) := by decide +kernel
theorem dX3_reduce_13 : decode cX3_reduce 13 = .ok (.iload_n 3, 1) := by decide +kernel
theorem dX3_reduce_14 : decode cX3_reduce 14 = .ok (.laload, 1) := by decide +kernel
theorem dX3_reduce_15 : decode cX3_reduce 15 = .ok (.invokestatic 54, 3) := by decide +kernel
theorem dX3_reduce_18 : decode cX3_reduce 18 = .ok (.lstore 4, 2) := by decide +kernel
theorem dX3_reduce_20 : decode cX3_reduce 20 = .ok (.iconst 0, 1) := by decide +kernel
theorem dX3_reduce_21 : decode cX3_reduce 21 = .ok (.istore 6, 2) := by decide +kernel
theorem dX3_reduce_23 : decode cX3_reduce 23 = .ok (.iload 6, 2) := by decide +kernel
theorem dX3_reduce_25 : decode cX3_reduce 25 = .ok (.sipush 200, 3) := by decide +kernel
theorem dX3_reduce_28 : decode cX3_reduce 28 = .ok (.if_icmp .ge 29, 3) := by decide +kernel
theorem dX3_reduce_31 : decode cX3_reduce 31 = .ok (.lload 4, 2) := by decide +kernel
theorem dX3_reduce_33 : decode cX3_reduce 33 = .ok (.lconst 0, 1) := by decide +kernel
theorem dX3_reduce_34 : decode cX3_reduce 34 = .ok (.lcmp, 1) := by decide +kernel
theorem dX3_reduce_35 : decode cX3_reduce 35 = .ok (.ifCond .eq 22, 3) := by decide +kernel
theorem dX3_reduce_38 : decode cX3_reduce 38 = .ok (.lload_n 1, 1) := by decide +kernel
theorem dX3_reduce_39 : decode cX3_reduce 39 = .ok (.lload 4, 2) := by decide +kernel
theorem dX3_reduce_41 : decode cX3_reduce 41 = .ok (.lrem, 1) := by decide +kernel
theorem dX3_reduce_42 : decode cX3_reduce 42 = .ok (.lstore 7, 2) := by decide +kernel
theorem dX3_reduce_44 : decode cX3_reduce 44 = .ok (.lload 4, 2) := by decide +kernel
theorem dX3_reduce_46 : decode cX3_reduce 46 = .ok (.lstore_n 1, 1) := by decide +kernel
theorem dX3_reduce_47 : decode cX3_reduce 47 = .ok (.lload 7, 2) := by decide +kernel
theorem dX3_reduce_49 : decode cX3_reduce 49 = .ok (.lstore 4, 2) := by decide +kernel
theorem dX3_reduce_51 : decode cX3_reduce 51 = .ok (.iinc 6 1, 3) := by decide +kernel
theorem dX3_reduce_54 : decode cX3_reduce 54 = .ok (.goto (-31), 3) := by decide +kernel
theorem dX3_reduce_57 : decode cX3_reduce 57 = .ok (.iinc 3 1, 3) := by decide +kernel
theorem dX3_reduce_60 : decode cX3_reduce 60 = .ok (.goto (-56), 3) := by decide +kernel
theorem dX3_reduce_63 : decode cX3_reduce 63 = .ok (.lload_n 1, 1) := by decide +kernel
theorem dX3_reduce_64 : decode cX3_reduce 64 = .ok (.lconst 1, 1) := by decide +kernel
theorem dX3_reduce_65 : decode cX3_reduce 65 = .ok (.lcmp, 1) := by decide +kernel
theorem dX3_reduce_66 : decode cX3_reduce 66 = .ok (.ifCond .le 26, 3) := by decide +kernel
theorem dX3_reduce_69 : decode cX3_reduce 69 = .ok (.iconst 0, 1) := by decide +kernel
theorem dX3_reduce_70 : decode cX3_reduce 70 = .ok (.istore_n 3, 1) := by decide +kernel
theorem dX3_reduce_71 : decode cX3_reduce 71 = .ok (.iload_n 3, 1) := by decide +kernel
theorem dX3_reduce_72 : decode cX3_reduce 72 = .ok (.iconst 5, 1) := by decide +kernel
theorem dX3_reduce_73 : decode cX3_reduce 73 = .ok (.if_icmp .ge 19, 3) := by decide +kernel
theorem dX3_reduce_76 : decode cX3_reduce 76 = .ok (.aload_n 0, 1) := by decide +kernel
theorem dX3_reduce_77 : decode cX3_reduce 77 = .ok (.getfield 20, 3) := by decide +kernel
theorem dX3_reduce_80 : decode cX3_reduce 80 = .ok (.iload_n 3, 1) := by decide +kernel
theorem dX3_reduce_81 : decode cX3_reduce 81 = .ok (.dup2, 1) := by decide +kernel
theorem dX3_reduce_82 : decode cX3_reduce 82 = .ok (.laload, 1) := by decide +kernel
theorem dX3_reduce_83 : decode cX3_reduce 83 = .ok (.lload_n 1, 1) := by decide +kernel
theorem dX3_reduce_84 : decode cX3_reduce 84 = .ok (.ldiv, 1) := by decide +kernel
theorem dX3_reduce_85 : decode cX3_reduce 85 = .ok (.lastore, 1) := by decide +kernel
theorem dX3_reduce_86 : decode cX3_reduce 86 = .ok (.iinc 3 1, 3) := by decide +kernel
theorem dX3_reduce_89 : decode cX3_reduce 89 = .ok (.goto (-18), 3) := by decide +kernel
theorem dX3_reduce_92 : decode cX3_reduce 92 = .ok (.return_, 1) := by decide +kernel
theorem dX3_signAt_0 : decode cX3_signAt 0 = .ok (.iload_n 1, 1) := by decide +kernel
theorem dX3_signAt_1 : decode cX3_signAt 1 = .ok (.ifCond .lt 8, 3) := by decide +kernel
theorem dX3_signAt_4 : decode cX3_signAt 4 = .ok (.iload_n 1, 1) := by decide +kernel
theorem dX3_signAt_5 : decode cX3_signAt 5 = .ok (.iconst 5, 1) := by decide +kernel
theorem dX3_signAt_6 : decode cX3_signAt 6 = .ok (.if_icmp .lt 5, 3) := by decide +kernel
theorem dX3_signAt_9 : decode cX3_signAt 9 = .ok (.iconst 0, 1) := by decide +kernel
theorem dX3_signAt_10 : decode cX3_signAt 10 = .ok (.ireturn, 1) := by decide +kernel
theorem dX3_signAt_11 : decode cX3_signAt 11 = .ok (.lconst 0, 1) := by decide +kernel
theorem dX3_signAt_12 : decode cX3_signAt 12 = .ok (.lstore_n 3, 1) := by decide +kernel
theorem dX3_signAt_13 : decode cX3_signAt 13 = .ok (.iconst 4, 1) := by decide +kernel
theorem dX3_signAt_14 : decode cX3_signAt 14 = .ok (.istore 5, 2) := by decide +kernel
theorem dX3_signAt_16 : decode cX3_signAt 16 = .ok (.iload 5, 2) := by decide +kernel
theorem dX3_signAt_18 : decode cX3_signAt 18 = .ok (.ifCond .lt 24, 3) := by decide +kernel
theorem dX3_signAt_21 : decode cX3_signAt 21 = .ok (.lload_n 3, 1) := by decide +kernel
theorem dX3_signAt_22 : decode cX3_signAt 22 = .ok (.iload_n 2, 1) := by decide +kernel
theorem dX3_signAt_23 : decode cX3_signAt 23 = .ok (.i2l, 1) := by decide +kernel
theorem dX3_signAt_24 : decode cX3_signAt 24 = .ok (.lmul, 1) := by decide +kernel
theorem dX3_signAt_25 : decode cX3_signAt 25 = .ok (.aload_n 0, 1) := by decide +kernel
theorem dX3_signAt_26 : decode cX3_signAt 26 = .ok (.getfield 11, 3) := by decide +kernel
theorem dX3_signAt_29 : decode cX3_signAt 29 = .ok (.iload_n 1, 1) := by decide +kernel
theorem dX3_signAt_30 : decode cX3_signAt 30 = .ok (.aaload, 1) := by decide +kernel
theorem dX3_signAt_31 : decode cX3_signAt 31 = .ok (.iload 5, 2) := by decide +kernel
theorem dX3_signAt_33 : decode cX3_signAt 33 = .ok (.laload, 1) := by decide +kernel
theorem dX3_signAt_34 : decode cX3_signAt 34 = .ok (.ladd, 1) := by decide +kernel
theorem dX3_signAt_35 : decode cX3_signAt 35 = .ok (.lstore_n 3, 1) := by decide +kernel
theorem dX3_signAt_36 : decode cX3_signAt 36 = .ok (.iinc 5 (-1), 3) := by decide +kernel
theorem dX3_signAt_39 : decode cX3_signAt 39 = .ok (.goto (-23), 3) := by decide +kernel
theorem dX3_signAt_42 : decode cX3_signAt 42 = .ok (.lload_n 3, 1) := by decide +kernel
theorem dX3_signAt_43 : decode cX3_signAt 43 = .ok (.lconst 0, 1) := by decide +kernel
theorem dX3_signAt_44 : decode cX3_signAt 44 = .ok (.invokestatic 66, 3) := by decide +kernel
theorem dX3_signAt_47 : decode cX3_signAt 47 = .ok (.ireturn, 1) := by decide +kernel
theorem dX3_changesAt_0 : decode cX3_changesAt 0 = .ok (.iconst 0, 1) := by decide +kernel
theorem dX3_changesAt_1 : decode cX3_changesAt 1 = .ok (.istore_n 2, 1) := by decide +kernel
theorem dX3_changesAt_2 : decode cX3_changesAt 2 = .ok (.iconst 0, 1) := by decide +kernel
theorem dX3_changesAt_3 : decode cX3_changesAt 3 = .ok (.istore_n 3, 1) := by decide +kernel
theorem dX3_changesAt_4 : decode cX3_changesAt 4 = .ok (.iconst 0, 1) := by decide +kernel
theorem dX3_changesAt_5 : decode cX3_changesAt 5 = .ok (.istore 4, 2) := by decide +kernel
theorem dX3_changesAt_7 : decode cX3_changesAt 7 = .ok (.iload 4, 2) := by decide +kernel
theorem dX3_changesAt_9 : decode cX3_changesAt 9 = .ok (.aload_n 0, 1) := by decide +kernel
theorem dX3_changesAt_10 : decode cX3_changesAt 10 = .ok (.getfield 24, 3) := by decide +kernel
theorem dX3_changesAt_13 : decode cX3_changesAt 13 = .ok (.if_icmp .ge 36, 3) := by decide +kernel
theorem dX3_changesAt_16 : decode cX3_changesAt 16 = .ok (.aload_n 0, 1) := by decide +kernel
theorem dX3_changesAt_17 : decode cX3_changesAt 17 = .ok (.iload 4, 2) := by decide +kernel
theorem dX3_changesAt_19 : decode cX3_changesAt 19 = .ok (.iload_n 1, 1) := by decide +kernel
theorem dX3_changesAt_20 : decode cX3_changesAt 20 = .ok (.invokevirtual 72, 3) := by decide +kernel
theorem dX3_changesAt_23 : decode cX3_changesAt 23 = .ok (.istore 5, 2) := by decide +kernel
theorem dX3_changesAt_25 : decode cX3_changesAt 25 = .ok (.iload 5, 2) := by decide +kernel
theorem dX3_changesAt_27 : decode cX3_changesAt 27 = .ok (.ifCond .eq 16, 3) := by decide +kernel
theorem dX3_changesAt_30 : decode cX3_changesAt 30 = .ok (.iload_n 3, 1) := by decide +kernel
theorem dX3_changesAt_31 : decode cX3_changesAt 31 = .ok (.iload 5, 2) := by decide +kernel
theorem dX3_changesAt_33 : decode cX3_changesAt 33 = .ok (.ineg, 1) := by decide +kernel
theorem dX3_changesAt_34 : decode cX3_changesAt 34 = .ok (.if_icmp .ne 6, 3) := by decide +kernel
theorem dX3_changesAt_37 : decode cX3_changesAt 37 = .ok (.iinc 2 1, 3) := by decide +kernel
theorem dX3_changesAt_40 : decode cX3_changesAt 40 = .ok (.iload 5, 2) := by decide +kernel
theorem dX3_changesAt_42 : decode cX3_changesAt 42 = .ok (.istore_n 3, 1) := by decide +kernel
theorem dX3_changesAt_43 : decode cX3_changesAt 43 = .ok (.iinc 4 1, 3) := by decide +kernel
theorem dX3_changesAt_46 : decode cX3_changesAt 46 = .ok (.goto (-39), 3) := by decide +kernel
theorem dX3_changesAt_49 : decode cX3_changesAt 49 = .ok (.iload_n 2, 1) := by decide +kernel
theorem dX3_changesAt_50 : decode cX3_changesAt 50 = .ok (.ireturn, 1) := by decide +kernel
theorem dX3_changesAbove_0 : decode cX3_changesAbove 0 = .ok (.iconst 0, 1) := by decide +kernel
theorem dX3_changesAbove_1 : decode cX3_changesAbove 1 = .ok (.istore_n 3, 1) := by decide +kernel
theorem dX3_changesAbove_2 : decode cX3_changesAbove 2 = .ok (.iconst 0, 1) := by decide +kernel
theorem dX3_changesAbove_3 : decode cX3_changesAbove 3 = .ok (.istore 4, 2) := by decide +kernel
theorem dX3_changesAbove_5 : decode cX3_changesAbove 5 = .ok (.iconst 0, 1) := by decide +kernel
theorem dX3_changesAbove_6 : decode cX3_changesAbove 6 = .ok (.istore 5, 2) := by decide +kernel
theorem dX3_changesAbove_8 : decode cX3_changesAbove 8 = .ok (.iload 5, 2) := by decide +kernel
theorem dX3_changesAbove_10 : decode cX3_changesAbove 10 = .ok (.aload_n 0, 1) := by decide +kernel
theorem dX3_changesAbove_11 : decode cX3_changesAbove 11 = .ok (.getfield 24, 3) := by decide +kernel
theorem dX3_changesAbove_14 : decode cX3_changesAbove 14 = .ok (.if_icmp .ge 34, 3) := by decide +kernel
theorem dX3_changesAbove_17 : decode cX3_changesAbove 17 = .ok (.aload_n 0, 1) := by decide +kernel
theorem dX3_changesAbove_18 : decode cX3_changesAbove 18 = .ok (.iload 5, 2) := by decide +kernel
theorem dX3_changesAbove_20 : decode cX3_changesAbove 20 = .ok (.iload_n 1, 1) := by decide +kernel
theorem dX3_changesAbove_21 : decode cX3_changesAbove 21 = .ok (.iload_n 2, 1) := by decide +kernel
theorem dX3_changesAbove_22 : decode cX3_changesAbove 22 = .ok (.invokevirtual 76, 3) := by decide +kernel
theorem dX3_changesAbove_25 : decode cX3_changesAbove 25 = .ok (.istore 6, 2) := by decide +kernel
theorem dX3_changesAbove_27 : decode cX3_changesAbove 27 = .ok (.iload 4, 2) := by decide +kernel
theorem dX3_changesAbove_29 : decode cX3_changesAbove 29 = .ok (.iload 6, 2) := by decide +kernel
theorem dX3_changesAbove_31 : decode cX3_changesAbove 31 = .ok (.ineg, 1) := by decide +kernel
theorem dX3_changesAbove_32 : decode cX3_changesAbove 32 = .ok (.if_icmp .ne 6, 3) := by decide +kernel
theorem dX3_changesAbove_35 : decode cX3_changesAbove 35 = .ok (.iinc 3 1, 3) := by decide +kernel
theorem dX3_changesAbove_38 : decode cX3_changesAbove 38 = .ok (.iload 6, 2) := by decide +kernel
theorem dX3_changesAbove_40 : decode cX3_changesAbove 40 = .ok (.istore 4, 2) := by decide +kernel
theorem dX3_changesAbove_42 : decode cX3_changesAbove 42 = .ok (.iinc 5 1, 3) := by decide +kernel
theorem dX3_changesAbove_45 : decode cX3_changesAbove 45 = .ok (.goto (-37), 3) := by decide +kernel
theorem dX3_changesAbove_48 : decode cX3_changesAbove 48 = .ok (.iload_n 3, 1) := by decide +kernel
theorem dX3_changesAbove_49 : decode cX3_changesAbove 49 = .ok (.ireturn, 1) := by decide +kernel
theorem dX3_signAbove_0 : decode cX3_signAbove 0 = .ok (.iload_n 1, 1) := by decide +kernel
theorem dX3_signAbove_1 : decode cX3_signAbove 1 = .ok (.ifCond .lt 27, 3) := by decide +kernel
theorem dX3_signAbove_4 : decode cX3_signAbove 4 = .ok (.iload_n 1, 1) := by decide +kernel
theorem dX3_signAbove_5 : decode cX3_signAbove 5 = .ok (.iconst 5, 1) := by decide +kernel
theorem dX3_signAbove_6 : decode cX3_signAbove 6 = .ok (.if_icmp .ge 22, 3) := by decide +kernel
theorem dX3_signAbove_9 : decode cX3_signAbove 9 = .ok (.aload_n 0, 1) := by decide +kernel
theorem dX3_signAbove_10 : decode cX3_signAbove 10 = .ok (.getfield 16, 3) := by decide +kernel
theorem dX3_signAbove_13 : decode cX3_signAbove 13 = .ok (.iload_n 1, 1) := by decide +kernel
theorem dX3_signAbove_14 : decode cX3_signAbove 14 = .ok (.iaload, 1) := by decide +kernel
theorem dX3_signAbove_15 : decode cX3_signAbove 15 = .ok (.ifCond .lt 13, 3) := by decide +kernel
theorem dX3_signAbove_18 : decode cX3_signAbove 18 = .ok (.aload_n 0, 1) := by decide +kernel
theorem dX3_signAbove_19 : decode cX3_signAbove 19 = .ok (.getfield 16, 3) := by decide +kernel
theorem dX3_signAbove_22 : decode cX3_signAbove 22 = .ok (.iload_n 1, 1) := by decide +kernel
theorem dX3_signAbove_23 : decode cX3_signAbove 23 = .ok (.iaload, 1) := by decide +kernel
theorem dX3_signAbove_24 : decode cX3_signAbove 24 = .ok (.iconst 5, 1) := by decide +kernel
theorem dX3_signAbove_25 : decode cX3_signAbove 25 = .ok (.if_icmp .lt 5, 3) := by decide +kernel
theorem dX3_signAbove_28 : decode cX3_signAbove 28 = .ok (.iconst 0, 1) := by decide +kernel
theorem dX3_signAbove_29 : decode cX3_signAbove 29 = .ok (.ireturn, 1) := by decide +kernel
theorem dX3_signAbove_30 : decode cX3_signAbove 30 = .ok (.aload_n 0, 1) := by decide +kernel
theorem dX3_signAbove_31 : decode cX3_signAbove 31 = .ok (.getfield 16, 3) := by decide +kernel
theorem dX3_signAbove_34 : decode cX3_signAbove 34 = .ok (.iload_n 1, 1) := by decide +kernel
theorem dX3_signAbove_35 : decode cX3_signAbove 35 = .ok (.iaload, 1) := by decide +kernel
theorem dX3_signAbove_36 : decode cX3_signAbove 36 = .ok (.istore 4, 2) := by decide +kernel
theorem dX3_signAbove_38 : decode cX3_signAbove 38 = .ok (.iconst 0, 1) := by decide +kernel
theorem dX3_signAbove_39 : decode cX3_signAbove 39 = .ok (.istore 5, 2) := by decide +kernel
theorem dX3_signAbove_41 : decode cX3_signAbove 41 = .ok (.iload 5, 2) := by decide +kernel
theorem dX3_signAbove_43 : decode cX3_signAbove 43 = .ok (.iload 4, 2) := by decide +kernel
theorem dX3_signAbove_45 : decode cX3_signAbove 45 = .ok (.if_icmp .gt 33, 3) := by decide +kernel
theorem dX3_signAbove_48 : decode cX3_signAbove 48 = .ok (.aload_n 0, 1) := by decide +kernel
theorem dX3_signAbove_49 : decode cX3_signAbove 49 = .ok (.getfield 20, 3) := by decide +kernel
theorem dX3_signAbove_52 : decode cX3_signAbove 52 = .ok (.iload 5, 2) := by decide +kernel
theorem dX3_signAbove_54 : decode cX3_signAbove 54 = .ok (.aload_n 0, 1) := by decide +kernel
theorem dX3_signAbove_55 : decode cX3_signAbove 55 = .ok (.getfield 11, 3) := by decide +kernel
theorem dX3_signAbove_58 : decode cX3_signAbove 58 = .ok (.iload_n 1, 1) := by decide +kernel
theorem dX3_signAbove_59 : decode cX3_signAbove 59 = .ok (.aaload, 1) := by decide +kernel
theorem dX3_signAbove_60 : decode cX3_signAbove 60 = .ok (.iload 5, 2) := by decide +kernel
theorem dX3_signAbove_62 : decode cX3_signAbove 62 = .ok (.laload, 1) := by decide +kernel
theorem dX3_signAbove_63 : decode cX3_signAbove 63 = .ok (.iload_n 3, 1) := by decide +kernel
theorem dX3_signAbove_64 : decode cX3_signAbove 64 = .ok (.iload 4, 2) := by decide +kernel
theorem dX3_signAbove_66 : decode cX3_signAbove 66 = .ok (.iload 5, 2) := by decide +kernel
theorem dX3_signAbove_68 : decode cX3_signAbove 68 = .ok (.isub, 1) := by decide +kernel
theorem dX3_signAbove_69 : decode cX3_signAbove 69 = .ok (.imul, 1) := by decide +kernel
theorem dX3_signAbove_70 : decode cX3_signAbove 70 = .ok (.lshl, 1) := by decide +kernel
theorem dX3_signAbove_71 : decode cX3_signAbove 71 = .ok (.lastore, 1) := by decide +kernel
theorem dX3_signAbove_72 : decode cX3_signAbove 72 = .ok (.iinc 5 1, 3) := by decide +kernel
theorem dX3_signAbove_75 : decode cX3_signAbove 75 = .ok (.goto (-34), 3) := by decide +kernel
theorem dX3_signAbove_78 : decode cX3_signAbove 78 = .ok (.iconst 0, 1) := by decide +kernel
theorem dX3_signAbove_79 : decode cX3_signAbove 79 = .ok (.istore 5, 2) := by decide +kernel
theorem dX3_signAbove_81 : decode cX3_signAbove 81 = .ok (.iload 5, 2) := by decide +kernel
theorem dX3_signAbove_83 : decode cX3_signAbove 83 = .ok (.iload 4, 2) := by decide +kernel
theorem dX3_signAbove_85 : decode cX3_signAbove 85 = .ok (.if_icmp .gt 80, 3) := by decide +kernel
theorem dX3_signAbove_88 : decode cX3_signAbove 88 = .ok (.iload 4, 2) := by decide +kernel
theorem dX3_signAbove_90 : decode cX3_signAbove 90 = .ok (.iconst 1, 1) := by decide +kernel
theorem dX3_signAbove_91 : decode cX3_signAbove 91 = .ok (.isub, 1) := by decide +kernel
theorem dX3_signAbove_92 : decode cX3_signAbove 92 = .ok (.istore 6, 2) := by decide +kernel
theorem dX3_signAbove_94 : decode cX3_signAbove 94 = .ok (.iload 6, 2) := by decide +kernel
theorem dX3_signAbove_96 : decode cX3_signAbove 96 = .ok (.iload 5, 2) := by decide +kernel
theorem dX3_signAbove_98 : decode cX3_signAbove 98 = .ok (.if_icmp .lt 31, 3) := by decide +kernel
theorem dX3_signAbove_101 : decode cX3_signAbove 101 = .ok (.aload_n 0, 1) := by decide +kernel
theorem dX3_signAbove_102 : decode cX3_signAbove 102 = .ok (.getfield 20, 3) := by decide +kernel
theorem dX3_signAbove_105 : decode cX3_signAbove 105 = .ok (.iload 6, 2) := by decide +kernel
theorem dX3_signAbove_107 : decode cX3_signAbove 107 = .ok (.dup2, 1) := by decide +kernel
theorem dX3_signAbove_108 : decode cX3_signAbove 108 = .ok (.laload, 1) := by decide +kernel
theorem dX3_signAbove_109 : decode cX3_signAbove 109 = .ok (.iload_n 2, 1) := by decide +kernel
theorem dX3_signAbove_110 : decode cX3_signAbove 110 = .ok (.i2l, 1) := by decide +kernel
theorem dX3_signAbove_111 : decode cX3_signAbove 111 = .ok (.aload_n 0, 1) := by decide +kernel
theorem dX3_signAbove_112 : decode cX3_signAbove 112 = .ok (.getfield 20, 3) := by decide +kernel
theorem dX3_signAbove_115 : decode cX3_signAbove 115 = .ok (.iload 6, 2) := by decide +kernel
theorem dX3_signAbove_117 : decode cX3_signAbove 117 = .ok (.iconst 1, 1) := by decide +kernel
theorem dX3_signAbove_118 : decode cX3_signAbove 118 = .ok (.iadd, 1) := by decide +kernel
theorem dX3_signAbove_119 : decode cX3_signAbove 119 = .ok (.laload, 1) := by decide +kernel
theorem dX3_signAbove_120 : decode cX3_signAbove 120 = .ok (.lmul, 1) := by decide +kernel
theorem dX3_signAbove_121 : decode cX3_signAbove 121 = .ok (.ladd, 1) := by decide +kernel
theorem dX3_signAbove_122 : decode cX3_signAbove 122 = .ok (.lastore, 1) := by decide +kernel
theorem dX3_signAbove_123 : decode cX3_signAbove 123 = .ok (.iinc 6 (-1), 3) := by decide +kernel
theorem dX3_signAbove_126 : decode cX3_signAbove 126 = .ok (.goto (-32), 3) := by decide +kernel
theorem dX3_signAbove_129 : decode cX3_signAbove 129 = .ok (.aload_n 0, 1) := by decide +kernel
theorem dX3_signAbove_130 : decode cX3_signAbove 130 = .ok (.getfield 20, 3) := by decide +kernel
theorem dX3_signAbove_133 : decode cX3_signAbove 133 = .ok (.iload 5, 2) := by decide +kernel
theorem dX3_signAbove_135 : decode cX3_signAbove 135 = .ok (.laload, 1) := by decide +kernel
theorem dX3_signAbove_136 : decode cX3_signAbove 136 = .ok (.lconst 0, 1) := by decide +kernel
theorem dX3_signAbove_137 : decode cX3_signAbove 137 = .ok (.lcmp, 1) := by decide +kernel
theorem dX3_signAbove_138 : decode cX3_signAbove 138 = .ok (.ifCond .eq 21, 3) := by decide +kernel
theorem dX3_signAbove_141 : decode cX3_signAbove 141 = .ok (.aload_n 0, 1) := by decide +kernel
theorem dX3_signAbove_142 : decode cX3_signAbove 142 = .ok (.getfield 20, 3) := by decide +kernel
theorem dX3_signAbove_145 : decode cX3_signAbove 145 = .ok (.iload 5, 2) := by decide +kernel
theorem dX3_signAbove_147 : decode cX3_signAbove 147 = .ok (.laload, 1) := by decide +kernel
theorem dX3_signAbove_148 : decode cX3_signAbove 148 = .ok (.lconst 0, 1) := by decide +kernel
theorem dX3_signAbove_149 : decode cX3_signAbove 149 = .ok (.lcmp, 1) := by decide +kernel
theorem dX3_signAbove_150 : decode cX3_signAbove 150 = .ok (.ifCond .le 7, 3) := by decide +kernel
theorem dX3_signAbove_153 : decode cX3_signAbove 153 = .ok (.iconst 1, 1) := by decide +kernel
theorem dX3_signAbove_154 : decode cX3_signAbove 154 = .ok (.goto 4, 3) := by decide +kernel
theorem dX3_signAbove_157 : decode cX3_signAbove 157 = .ok (.iconst (-1), 1) := by decide +kernel
theorem dX3_signAbove_158 : decode cX3_signAbove 158 = .ok (.ireturn, 1) := by decide +kernel
theorem dX3_signAbove_159 : decode cX3_signAbove 159 = .ok (.iinc 5 1, 3) := by decide +kernel
theorem dX3_signAbove_162 : decode cX3_signAbove 162 = .ok (.goto (-81), 3) := by decide +kernel
theorem dX3_signAbove_165 : decode cX3_signAbove 165 = .ok (.iconst 0, 1) := by decide +kernel
theorem dX3_signAbove_166 : decode cX3_signAbove 166 = .ok (.ireturn, 1) := by decide +kernel
theorem dX3_distinctBetween_0 : decode cX3_distinctBetween 0 = .ok (.aload_n 0, 1) := by decide +kernel
theorem dX3_distinctBetween_1 : decode cX3_distinctBetween 1 = .ok (.getfield 24, 3) := by decide +kernel
theorem dX3_distinctBetween_4 : decode cX3_distinctBetween 4 = .ok (.ifCond .ne 7, 3) := by decide +kernel
theorem dX3_distinctBetween_7 : decode cX3_distinctBetween 7 = .ok (.iconst (-1), 1) := by decide +kernel
theorem dX3_distinctBetween_8 : decode cX3_distinctBetween 8 = .ok (.goto 16, 3) := by decide +kernel
theorem dX3_distinctBetween_11 : decode cX3_distinctBetween 11 = .ok (.aload_n 0, 1) := by decide +kernel
theorem dX3_distinctBetween_12 : decode cX3_distinctBetween 12 = .ok (.iload_n 1, 1) := by decide +kernel
theorem dX3_distinctBetween_13 : decode cX3_distinctBetween 13 = .ok (.iconst 0, 1) := by decide +kernel
theorem dX3_distinctBetween_14 : decode cX3_distinctBetween 14 = .ok (.invokevirtual 80, 3) := by decide +kernel
theorem dX3_distinctBetween_17 : decode cX3_distinctBetween 17 = .ok (.aload_n 0, 1) := by decide +kernel
theorem dX3_distinctBetween_18 : decode cX3_distinctBetween 18 = .ok (.iload_n 2, 1) := by decide +kernel
theorem dX3_distinctBetween_19 : decode cX3_distinctBetween 19 = .ok (.iconst 0, 1) := by decide +kernel
theorem dX3_distinctBetween_20 : decode cX3_distinctBetween 20 = .ok (.invokevirtual 80, 3) := by decide +kernel
theorem dX3_distinctBetween_23 : decode cX3_distinctBetween 23 = .ok (.isub, 1) := by decide +kernel
theorem dX3_distinctBetween_24 : decode cX3_distinctBetween 24 = .ok (.ireturn, 1) := by decide +kernel
theorem dX3_allDistinct_0 : decode cX3_allDistinct 0 = .ok (.aload_n 0, 1) := by decide +kernel
theorem dX3_allDistinct_1 : decode cX3_allDistinct 1 = .ok (.getfield 24, 3) := by decide +kernel
theorem dX3_allDistinct_4 : decode cX3_allDistinct 4 = .ok (.ifCond .ne 7, 3) := by decide +kernel
theorem dX3_allDistinct_7 : decode cX3_allDistinct 7 = .ok (.iconst (-1), 1) := by decide +kernel
theorem dX3_allDistinct_8 : decode cX3_allDistinct 8 = .ok (.goto 18, 3) := by decide +kernel
theorem dX3_allDistinct_11 : decode cX3_allDistinct 11 = .ok (.aload_n 0, 1) := by decide +kernel
theorem dX3_allDistinct_12 : decode cX3_allDistinct 12 = .ok (.bipush (-31), 2) := by decide +kernel
theorem dX3_allDistinct_14 : decode cX3_allDistinct 14 = .ok (.iconst 0, 1) := by decide +kernel
theorem dX3_allDistinct_15 : decode cX3_allDistinct 15 = .ok (.invokevirtual 80, 3) := by decide +kernel
theorem dX3_allDistinct_18 : decode cX3_allDistinct 18 = .ok (.aload_n 0, 1) := by decide +kernel
theorem dX3_allDistinct_19 : decode cX3_allDistinct 19 = .ok (.bipush 31, 2) := by decide +kernel
theorem dX3_allDistinct_21 : decode cX3_allDistinct 21 = .ok (.iconst 0, 1) := by decide +kernel
theorem dX3_allDistinct_22 : decode cX3_allDistinct 22 = .ok (.invokevirtual 80, 3) := by decide +kernel
theorem dX3_allDistinct_25 : decode cX3_allDistinct 25 = .ok (.isub, 1) := by decide +kernel
theorem dX3_allDistinct_26 : decode cX3_allDistinct 26 = .ok (.ireturn, 1) := by decide +kernel
theorem dX3_countedBetween_0 : decode cX3_countedBetween 0 = .ok (.iconst 0, 1) := by decide +kernel
theorem dX3_countedBetween_1 : decode cX3_countedBetween 1 = .ok (.istore_n 3, 1) := by decide +kernel
theorem dX3_countedBetween_2 : decode cX3_countedBetween 2 = .ok (.iconst 0, 1) := by decide +kernel
theorem dX3_countedBetween_3 : decode cX3_countedBetween 3 = .ok (.istore 4, 2) := by decide +kernel
theorem dX3_countedBetween_5 : decode cX3_countedBetween 5 = .ok (.iload 4, 2) := by decide +kernel
theorem dX3_countedBetween_7 : decode cX3_countedBetween 7 = .ok (.iconst 5, 1) := by decide +kernel
theorem dX3_countedBetween_8 : decode cX3_countedBetween 8 = .ok (.if_icmp .ge 30, 3) := by decide +kernel
theorem dX3_countedBetween_11 : decode cX3_countedBetween 11 = .ok (.aload_n 0, 1) := by decide +kernel
theorem dX3_countedBetween_12 : decode cX3_countedBetween 12 = .ok (.getfield 24, 3) := by decide +kernel
theorem dX3_countedBetween_15 : decode cX3_countedBetween 15 = .ok (.iconst 1, 1) := by decide +kernel
theorem dX3_countedBetween_16 : decode cX3_countedBetween 16 = .ok (.if_icmp .le 22, 3) := by decide +kernel
theorem dX3_countedBetween_19 : decode cX3_countedBetween 19 = .ok (.iload_n 3, 1) := by decide +kernel
theorem dX3_countedBetween_20 : decode cX3_countedBetween 20 = .ok (.aload_n 0, 1) := by decide +kernel
theorem dX3_countedBetween_21 : decode cX3_countedBetween 21 = .ok (.iload_n 1, 1) := by decide +kernel
theorem dX3_countedBetween_22 : decode cX3_countedBetween 22 = .ok (.iload_n 2, 1) := by decide +kernel
theorem dX3_countedBetween_23 : decode cX3_countedBetween 23 = .ok (.invokevirtual 83, 3) := by decide +kernel
theorem dX3_countedBetween_26 : decode cX3_countedBetween 26 = .ok (.iadd, 1) := by decide +kernel
theorem dX3_countedBetween_27 : decode cX3_countedBetween 27 = .ok (.istore_n 3, 1) := by decide +kernel
theorem dX3_countedBetween_28 : decode cX3_countedBetween 28 = .ok (.aload_n 0, 1) := by decide +kernel
theorem dX3_countedBetween_29 : decode cX3_countedBetween 29 = .ok (.invokevirtual 86, 3) := by decide +kernel
theorem dX3_countedBetween_32 : decode cX3_countedBetween 32 = .ok (.iinc 4 1, 3) := by decide +kernel
theorem dX3_countedBetween_35 : decode cX3_countedBetween 35 = .ok (.goto (-30), 3) := by decide +kernel
theorem dX3_countedBetween_38 : decode cX3_countedBetween 38 = .ok (.iload_n 3, 1) := by decide +kernel
theorem dX3_countedBetween_39 : decode cX3_countedBetween 39 = .ok (.ireturn, 1) := by decide +kernel
theorem dX3_below_0 : decode cX3_below 0 = .ok (.bipush 31, 2) := by decide +kernel
theorem dX3_below_2 : decode cX3_below 2 = .ok (.iload_n 2, 1) := by decide +kernel
theorem dX3_below_3 : decode cX3_below 3 = .ok (.ishl, 1) := by decide +kernel
theorem dX3_below_4 : decode cX3_below 4 = .ok (.istore_n 3, 1) := by decide +kernel
theorem dX3_below_5 : decode cX3_below 5 = .ok (.aload_n 0, 1) := by decide +kernel
theorem dX3_below_6 : decode cX3_below 6 = .ok (.iload_n 3, 1) := by decide +kernel
theorem dX3_below_7 : decode cX3_below 7 = .ok (.ineg, 1) := by decide +kernel
theorem dX3_below_8 : decode cX3_below 8 = .ok (.iload_n 2, 1) := by decide +kernel
theorem dX3_below_9 : decode cX3_below 9 = .ok (.invokevirtual 80, 3) := by decide +kernel
theorem dX3_below_12 : decode cX3_below 12 = .ok (.istore 4, 2) := by decide +kernel
theorem dX3_below_14 : decode cX3_below 14 = .ok (.iload_n 3, 1) := by decide +kernel
theorem dX3_below_15 : decode cX3_below 15 = .ok (.ineg, 1) := by decide +kernel
theorem dX3_below_16 : decode cX3_below 16 = .ok (.istore 5, 2) := by decide +kernel
theorem dX3_below_18 : decode cX3_below 18 = .ok (.iload_n 3, 1) := by decide +kernel
theorem dX3_below_19 : decode cX3_below 19 = .ok (.istore 6, 2) := by decide +kernel
theorem dX3_below_21 : decode cX3_below 21 = .ok (.iconst 0, 1) := by decide +kernel
theorem dX3_below_22 : decode cX3_below 22 = .ok (.istore 7, 2) := by decide +kernel
theorem dX3_below_24 : decode cX3_below 24 = .ok (.iload 7, 2) := by decide +kernel
theorem dX3_below_26 : decode cX3_below 26 = .ok (.bipush 32, 2) := by decide +kernel
theorem dX3_below_28 : decode cX3_below 28 = .ok (.if_icmp .ge 55, 3) := by decide +kernel
theorem dX3_below_31 : decode cX3_below 31 = .ok (.iload 6, 2) := by decide +kernel
theorem dX3_below_33 : decode cX3_below 33 = .ok (.iload 5, 2) := by decide +kernel
theorem dX3_below_35 : decode cX3_below 35 = .ok (.isub, 1) := by decide +kernel
theorem dX3_below_36 : decode cX3_below 36 = .ok (.iconst 1, 1) := by decide +kernel
theorem dX3_below_37 : decode cX3_below 37 = .ok (.if_icmp .le 46, 3) := by decide +kernel
theorem dX3_below_40 : decode cX3_below 40 = .ok (.iload 5, 2) := by decide +kernel
theorem dX3_below_42 : decode cX3_below 42 = .ok (.iload 6, 2) := by decide +kernel
theorem dX3_below_44 : decode cX3_below 44 = .ok (.iload 5, 2) := by decide +kernel
theorem dX3_below_46 : decode cX3_below 46 = .ok (.isub, 1) := by decide +kernel
theorem dX3_below_47 : decode cX3_below 47 = .ok (.iconst 2, 1) := by decide +kernel
theorem dX3_below_48 : decode cX3_below 48 = .ok (.idiv, 1) := by decide +kernel
theorem dX3_below_49 : decode cX3_below 49 = .ok (.iadd, 1) := by decide +kernel
theorem dX3_below_50 : decode cX3_below 50 = .ok (.istore 8, 2) := by decide +kernel
theorem dX3_below_52 : decode cX3_below 52 = .ok (.iload 4, 2) := by decide +kernel
theorem dX3_below_54 : decode cX3_below 54 = .ok (.aload_n 0, 1) := by decide +kernel
theorem dX3_below_55 : decode cX3_below 55 = .ok (.iload 8, 2) := by decide +kernel
theorem dX3_below_57 : decode cX3_below 57 = .ok (.iload_n 2, 1) := by decide +kernel
theorem dX3_below_58 : decode cX3_below 58 = .ok (.invokevirtual 80, 3) := by decide +kernel
theorem dX3_below_61 : decode cX3_below 61 = .ok (.isub, 1) := by decide +kernel
theorem dX3_below_62 : decode cX3_below 62 = .ok (.iload_n 1, 1) := by decide +kernel
theorem dX3_below_63 : decode cX3_below 63 = .ok (.if_icmp .gt 10, 3) := by decide +kernel
theorem dX3_below_66 : decode cX3_below 66 = .ok (.iload 8, 2) := by decide +kernel
theorem dX3_below_68 : decode cX3_below 68 = .ok (.istore 5, 2) := by decide +kernel
theorem dX3_below_70 : decode cX3_below 70 = .ok (.goto 7, 3) := by decide +kernel
theorem dX3_below_73 : decode cX3_below 73 = .ok (.iload 8, 2) := by decide +kernel
theorem dX3_below_75 : decode cX3_below 75 = .ok (.istore 6, 2) := by decide +kernel
theorem dX3_below_77 : decode cX3_below 77 = .ok (.iinc 7 1, 3) := by decide +kernel
theorem dX3_below_80 : decode cX3_below 80 = .ok (.goto (-56), 3) := by decide +kernel
theorem dX3_below_83 : decode cX3_below 83 = .ok (.iload 5, 2) := by decide +kernel
theorem dX3_below_85 : decode cX3_below 85 = .ok (.ireturn, 1) := by decide +kernel
end
section
theorem dX4_init_0 : decode cX4_init 0 = .ok (.aload_n 0, 1) := by decide +kernel
theorem dX4_init_1 : decode cX4_init 1 = .ok (.invokespecial 1, 3) := by decide +kernel
theorem dX4_init_4 : decode cX4_init 4 = .ok (.aload_n 0, 1) := by decide +kernel
theorem dX4_init_5 : decode cX4_init 5 = .ok (.new 7, 3) := by decide +kernel
theorem dX4_init_8 : decode cX4_init 8 = .ok (.dup, 1) := by decide +kernel
theorem dX4_init_9 : decode cX4_init 9 = .ok (.invokespecial 9, 3) := by decide +kernel
theorem dX4_init_12 : decode cX4_init 12 = .ok (.putfield 10, 3) := by decide +kernel
theorem dX4_init_15 : decode cX4_init 15 = .ok (.aload_n 0, 1) := by decide +kernel
theorem dX4_init_16 : decode cX4_init 16 = .ok (.new 7, 3) := by decide +kernel
theorem dX4_init_19 : decode cX4_init 19 = .ok (.dup, 1) := by decide +kernel
theorem dX4_init_20 : decode cX4_init 20 = .ok (.invokespecial 9, 3) := by decide +kernel
theorem dX4_init_23 : decode cX4_init 23 = .ok (.putfield 16, 3) := by decide +kernel
theorem dX4_init_26 : decode cX4_init 26 = .ok (.aload_n 0, 1) := by decide +kernel
theorem dX4_init_27 : decode cX4_init 27 = .ok (.iconst 2, 1) := by decide +kernel
theorem dX4_init_28 : decode cX4_init 28 = .ok (.anewarray 7, 3) := by decide +kernel
theorem dX4_init_31 : decode cX4_init 31 = .ok (.putfield 19, 3) := by decide +kernel
theorem dX4_init_34 : decode cX4_init 34 = .ok (.aload_n 0, 1) := by decide +kernel
theorem dX4_init_35 : decode cX4_init 35 = .ok (.new 23, 3) := by decide +kernel
theorem dX4_init_38 : decode cX4_init 38 = .ok (.dup, 1) := by decide +kernel
theorem dX4_init_39 : decode cX4_init 39 = .ok (.invokespecial 25, 3) := by decide +kernel
theorem dX4_init_42 : decode cX4_init 42 = .ok (.putfield 26, 3) := by decide +kernel
theorem dX4_init_45 : decode cX4_init 45 = .ok (.aload_n 0, 1) := by decide +kernel
theorem dX4_init_46 : decode cX4_init 46 = .ok (.new 30, 3) := by decide +kernel
theorem dX4_init_49 : decode cX4_init 49 = .ok (.dup, 1) := by decide +kernel
theorem dX4_init_50 : decode cX4_init 50 = .ok (.invokespecial 32, 3) := by decide +kernel
theorem dX4_init_53 : decode cX4_init 53 = .ok (.putfield 33, 3) := by decide +kernel
theorem dX4_init_56 : decode cX4_init 56 = .ok (.aload_n 0, 1) := by decide +kernel
theorem dX4_init_57 : decode cX4_init 57 = .ok (.new 37, 3) := by decide +kernel
theorem dX4_init_60 : decode cX4_init 60 = .ok (.dup, 1) := by decide +kernel
theorem dX4_init_61 : decode cX4_init 61 = .ok (.invokespecial 39, 3) := by decide +kernel
theorem dX4_init_64 : decode cX4_init 64 = .ok (.putfield 40, 3) := by decide +kernel
theorem dX4_init_67 : decode cX4_init 67 = .ok (.aload_n 0, 1) := by decide +kernel
theorem dX4_init_68 : decode cX4_init 68 = .ok (.bipush 9, 2) := by decide +kernel
theorem dX4_init_70 : decode cX4_init 70 = .ok (.newarray .int, 2) := by decide +kernel
theorem dX4_init_72 : decode cX4_init 72 = .ok (.putfield 44, 3) := by decide +kernel
theorem dX4_init_75 : decode cX4_init 75 = .ok (.aload_n 0, 1) := by decide +kernel
theorem dX4_init_76 : decode cX4_init 76 = .ok (.iconst 5, 1) := by decide +kernel
theorem dX4_init_77 : decode cX4_init 77 = .ok (.newarray .long, 2) := by decide +kernel
theorem dX4_init_79 : decode cX4_init 79 = .ok (.putfield 48, 3) := by decide +kernel
theorem dX4_init_82 : decode cX4_init 82 = .ok (.return_, 1) := by decide +kernel
theorem dX4_appendText_0 : decode cX4_appendText 0 = .ok (.aload_n 0, 1) := by decide +kernel
theorem dX4_appendText_1 : decode cX4_appendText 1 = .ok (.getfield 33, 3) := by decide +kernel
theorem dX4_appendText_4 : decode cX4_appendText 4 = .ok (.iconst 4, 1) := by decide +kernel
theorem dX4_appendText_5 : decode cX4_appendText 5 = .ok (.invokevirtual 52, 3) := by decide +kernel
theorem dX4_appendText_8 : decode cX4_appendText 8 = .ok (.ifCond .ne 11, 3) := by decide +kernel
theorem dX4_appendText_11 : decode cX4_appendText 11 = .ok (.new 56, 3) := by decide +kernel
theorem dX4_appendText_14 : decode cX4_appendText 14 = .ok (.dup, 1) := by decide +kernel
theorem dX4_appendText_15 : decode cX4_appendText 15 = .ok (.invokespecial 58, 3) := by decide +kernel
theorem dX4_appendText_18 : decode cX4_appendText 18 = .ok (.athrow, 1) := by decide +kernel
theorem dX4_appendText_19 : decode cX4_appendText 19 = .ok (.bipush 24, 2) := by decide +kernel
theorem dX4_appendText_21 : decode cX4_appendText 21 = .ok (.istore_n 2, 1) := by decide +kernel
theorem dX4_appendText_22 : decode cX4_appendText 22 = .ok (.iload_n 2, 1) := by decide +kernel
theorem dX4_appendText_23 : decode cX4_appendText 23 = .ok (.ifCond .lt 20, 3) := by decide +kernel
theorem dX4_appendText_26 : decode cX4_appendText 26 = .ok (.aload_n 0, 1) := by decide +kernel
theorem dX4_appendText_27 : decode cX4_appendText 27 = .ok (.getfield 33, 3) := by decide +kernel
theorem dX4_appendText_30 : decode cX4_appendText 30 = .ok (.iload_n 1, 1) := by decide +kernel
theorem dX4_appendText_31 : decode cX4_appendText 31 = .ok (.iload_n 2, 1) := by decide +kernel
theorem dX4_appendText_32 : decode cX4_appendText 32 = .ok (.ishr, 1) := by decide +kernel
theorem dX4_appendText_33 : decode cX4_appendText 33 = .ok (.i2b, 1) := by decide +kernel
theorem dX4_appendText_34 : decode cX4_appendText 34 = .ok (.invokevirtual 59, 3) := by decide +kernel
theorem dX4_appendText_37 : decode cX4_appendText 37 = .ok (.iinc 2 (-8), 3) := by decide +kernel
theorem dX4_appendText_40 : decode cX4_appendText 40 = .ok (.goto (-18), 3) := by decide +kernel
theorem dX4_appendText_43 : decode cX4_appendText 43 = .ok (.aload_n 0, 1) := by decide +kernel
theorem dX4_appendText_44 : decode cX4_appendText 44 = .ok (.getfield 33, 3) := by decide +kernel
theorem dX4_appendText_47 : decode cX4_appendText 47 = .ok (.getfield 63, 3) := by decide +kernel
theorem dX4_appendText_50 : decode cX4_appendText 50 = .ok (.ireturn, 1) := by decide +kernel
theorem dX4_truncateText_0 : decode cX4_truncateText 0 = .ok (.iload_n 1, 1) := by decide +kernel
theorem dX4_truncateText_1 : decode cX4_truncateText 1 = .ok (.ifCond .lt 14, 3) := by decide +kernel
theorem dX4_truncateText_4 : decode cX4_truncateText 4 = .ok (.iload_n 1, 1) := by decide +kernel
theorem dX4_truncateText_5 : decode cX4_truncateText 5 = .ok (.aload_n 0, 1) := by decide +kernel
theorem dX4_truncateText_6 : decode cX4_truncateText 6 = .ok (.getfield 33, 3) := by decide +kernel
theorem dX4_truncateText_9 : decode cX4_truncateText 9 = .ok (.getfield 63, 3) := by decide +kernel
theorem dX4_truncateText_12 : decode cX4_truncateText 12 = .ok (.if_icmp .le 11, 3) := by decide +kernel
theorem dX4_truncateText_15 : decode cX4_truncateText 15 = .ok (.new 67, 3) := by decide +kernel
theorem dX4_truncateText_18 : decode cX4_truncateText 18 = .ok (.dup, 1) := by decide +kernel
theorem dX4_truncateText_19 : decode cX4_truncateText 19 = .ok (.invokespecial 69, 3) := by decide +kernel
theorem dX4_truncateText_22 : decode cX4_truncateText 22 = .ok (.athrow, 1) := by decide +kernel
theorem dX4_truncateText_23 : decode cX4_truncateText 23 = .ok (.aload_n 0, 1) := by decide +kernel
theorem dX4_truncateText_24 : decode cX4_truncateText 24 = .ok (.getfield 33, 3) := by decide +kernel
theorem dX4_truncateText_27 : decode cX4_truncateText 27 = .ok (.iload_n 1, 1) := by decide +kernel
theorem dX4_truncateText_28 : decode cX4_truncateText 28 = .ok (.putfield 63, 3) := by decide +kernel
theorem dX4_truncateText_31 : decode cX4_truncateText 31 = .ok (.iload_n 1, 1) := by decide +kernel
theorem dX4_truncateText_32 : decode cX4_truncateText 32 = .ok (.ireturn, 1) := by decide +kernel
theorem dX4_load_0 : decode cX4_load 0 = .ok (.aload_n 0, 1) := by decide +kernel
theorem dX4_load_1 : decode cX4_load 1 = .ok (.getfield 16, 3) := by decide +kernel
theorem dX4_load_4 : decode cX4_load 4 = .ok (.invokevirtual 70, 3) := by decide +kernel
theorem dX4_load_7 : decode cX4_load 7 = .ok (.aload_n 0, 1) := by decide +kernel
theorem dX4_load_8 : decode cX4_load 8 = .ok (.getfield 33, 3) := by decide +kernel
theorem dX4_load_11 : decode cX4_load 11 = .ok (.aload_n 0, 1) := by decide +kernel
theorem dX4_load_12 : decode cX4_load 12 = .ok (.getfield 16, 3) := by decide +kernel
theorem dX4_load_15 : decode cX4_load 15 = .ok (.invokevirtual 73, 3) := by decide +kernel
theorem dX4_load_18 : decode cX4_load 18 = .ok (.istore_n 1, 1) := by decide +kernel
theorem dX4_load_19 : decode cX4_load 19 = .ok (.aload_n 0, 1) := by decide +kernel
theorem dX4_load_20 : decode cX4_load 20 = .ok (.getfield 33, 3) := by decide +kernel
theorem dX4_load_23 : decode cX4_load 23 = .ok (.iconst 0, 1) := by decide +kernel
theorem dX4_load_24 : decode cX4_load 24 = .ok (.putfield 63, 3) := by decide +kernel
theorem dX4_load_27 : decode cX4_load 27 = .ok (.iload_n 1, 1) := by decide +kernel
theorem dX4_load_28 : decode cX4_load 28 = .ok (.ifCond .ne 5, 3) := by decide +kernel
theorem dX4_load_31 : decode cX4_load 31 = .ok (.iconst (-1), 1) := by decide +kernel
theorem dX4_load_32 : decode cX4_load 32 = .ok (.ireturn, 1) := by decide +kernel
theorem dX4_load_33 : decode cX4_load 33 = .ok (.aload_n 0, 1) := by decide +kernel
theorem dX4_load_34 : decode cX4_load 34 = .ok (.getfield 10, 3) := by decide +kernel
theorem dX4_load_37 : decode cX4_load 37 = .ok (.aload_n 0, 1) := by decide +kernel
theorem dX4_load_38 : decode cX4_load 38 = .ok (.getfield 16, 3) := by decide +kernel
theorem dX4_load_41 : decode cX4_load 41 = .ok (.invokevirtual 77, 3) := by decide +kernel
theorem dX4_load_44 : decode cX4_load 44 = .ok (.aload_n 0, 1) := by decide +kernel
theorem dX4_load_45 : decode cX4_load 45 = .ok (.iconst 0, 1) := by decide +kernel
theorem dX4_load_46 : decode cX4_load 46 = .ok (.putfield 81, 3) := by decide +kernel
theorem dX4_load_49 : decode cX4_load 49 = .ok (.aload_n 0, 1) := by decide +kernel
theorem dX4_load_50 : decode cX4_load 50 = .ok (.getfield 33, 3) := by decide +kernel
theorem dX4_load_53 : decode cX4_load 53 = .ok (.getfield 84, 3) := by decide +kernel
theorem dX4_load_56 : decode cX4_load 56 = .ok (.ireturn, 1) := by decide +kernel
theorem dX4_play_0 : decode cX4_play 0 = .ok (.aload_n 0, 1) := by decide +kernel
theorem dX4_play_1 : decode cX4_play 1 = .ok (.getfield 33, 3) := by decide +kernel
theorem dX4_play_4 : decode cX4_play 4 = .ok (.aload_n 0, 1) := by decide +kernel
theorem dX4_play_5 : decode cX4_play 5 = .ok (.getfield 10, 3) := by decide +kernel
theorem dX4_play_8 : decode cX4_play 8 = .ok (.getfield 87, 3) := by decide +kernel
theorem dX4_play_11 : decode cX4_play 11 = .ok (.iconst 0, 1) := by decide +kernel
theorem dX4_play_12 : decode cX4_play 12 = .ok (.iaload, 1) := by decide +kernel
theorem dX4_play_13 : decode cX4_play 13 = .ok (.invokevirtual 90, 3) := by decide +kernel
theorem dX4_play_16 : decode cX4_play 16 = .ok (.istore_n 1, 1) := by decide +kernel
theorem dX4_play_17 : decode cX4_play 17 = .ok (.aload_n 0, 1) := by decide +kernel
theorem dX4_play_18 : decode cX4_play 18 = .ok (.getfield 33, 3) := by decide +kernel
theorem dX4_play_21 : decode cX4_play 21 = .ok (.iconst 0, 1) := by decide +kernel
theorem dX4_play_22 : decode cX4_play 22 = .ok (.putfield 63, 3) := by decide +kernel
theorem dX4_play_25 : decode cX4_play 25 = .ok (.iload_n 1, 1) := by decide +kernel
theorem dX4_play_26 : decode cX4_play 26 = .ok (.ifCond .ne 5, 3) := by decide +kernel
theorem dX4_play_29 : decode cX4_play 29 = .ok (.iconst (-1), 1) := by decide +kernel
theorem dX4_play_30 : decode cX4_play 30 = .ok (.ireturn, 1) := by decide +kernel
theorem dX4_play_31 : decode cX4_play 31 = .ok (.iconst 0, 1) := by decide +kernel
theorem dX4_play_32 : decode cX4_play 32 = .ok (.istore_n 2, 1) := by decide +kernel
theorem dX4_play_33 : decode cX4_play 33 = .ok (.iload_n 2, 1) := by decide +kernel
theorem dX4_play_34 : decode cX4_play 34 = .ok (.aload_n 0, 1) := by decide +kernel
theorem dX4_play_35 : decode cX4_play 35 = .ok (.getfield 33, 3) := by decide +kernel
theorem dX4_play_38 : decode cX4_play 38 = .ok (.getfield 84, 3) := by decide +kernel
theorem dX4_play_41 : decode cX4_play 41 = .ok (.if_icmp .ge 129, 3) := by decide +kernel
theorem dX4_play_44 : decode cX4_play 44 = .ok (.aload_n 0, 1) := by decide +kernel
theorem dX4_play_45 : decode cX4_play 45 = .ok (.getfield 33, 3) := by decide +kernel
theorem dX4_play_48 : decode cX4_play 48 = .ok (.iload_n 2, 1) := by decide +kernel
theorem dX4_play_49 : decode cX4_play 49 = .ok (.iconst 1, 1) := by decide +kernel
theorem dX4_play_50 : decode cX4_play 50 = .ok (.invokevirtual 93, 3) := by decide +kernel
theorem dX4_play_53 : decode cX4_play 53 = .ok (.istore_n 3, 1) := by decide +kernel
theorem dX4_play_54 : decode cX4_play 54 = .ok (.aload_n 0, 1) := by decide +kernel
theorem dX4_play_55 : decode cX4_play 55 = .ok (.getfield 33, 3) := by decide +kernel
theorem dX4_play_58 : decode cX4_play 58 = .ok (.iload_n 2, 1) := by decide +kernel
theorem dX4_play_59 : decode cX4_play 59 = .ok (.iconst 2, 1) := by decide +kernel
theorem dX4_play_60 : decode cX4_play 60 = .ok (.invokevirtual 93, 3) := by decide +kernel
theorem dX4_play_63 : decode cX4_play 63 = .ok (.istore 4, 2) := by decide +kernel
theorem dX4_play_65 : decode cX4_play 65 = .ok (.aload_n 0, 1) := by decide +kernel
theorem dX4_play_66 : decode cX4_play 66 = .ok (.getfield 33, 3) := by decide +kernel
theorem dX4_play_69 : decode cX4_play 69 = .ok (.iload_n 2, 1) := by decide +kernel
theorem dX4_play_70 : decode cX4_play 70 = .ok (.iconst 0, 1) := by decide +kernel
theorem dX4_play_71 : decode cX4_play 71 = .ok (.invokevirtual 93, 3) := by decide +kernel
theorem dX4_play_74 : decode cX4_play 74 = .ok (.lookupswitch 77 #[(0, 26), (1, 38)], 26) := by decide +kernel
theorem dX4_play_100 : decode cX4_play 100 = .ok (.aload_n 0, 1) := by decide +kernel
theorem dX4_play_101 : decode cX4_play 101 = .ok (.iload_n 3, 1) := by decide +kernel
theorem dX4_play_102 : decode cX4_play 102 = .ok (.iload 4, 2) := by decide +kernel
theorem dX4_play_104 : decode cX4_play 104 = .ok (.invokevirtual 97, 3) := by decide +kernel
theorem dX4_play_107 : decode cX4_play 107 = .ok (.istore 5, 2) := by decide +kernel
theorem dX4_play_109 : decode cX4_play 109 = .ok (.goto 48, 3) := by decide +kernel
theorem dX4_play_112 : decode cX4_play 112 = .ok (.aload_n 0, 1) := by decide +kernel
theorem dX4_play_113 : decode cX4_play 113 = .ok (.iload_n 3, 1) := by decide +kernel
theorem dX4_play_114 : decode cX4_play 114 = .ok (.iload 4, 2) := by decide +kernel
theorem dX4_play_116 : decode cX4_play 116 = .ok (.aload_n 0, 1) := by decide +kernel
theorem dX4_play_117 : decode cX4_play 117 = .ok (.getfield 33, 3) := by decide +kernel
theorem dX4_play_120 : decode cX4_play 120 = .ok (.iload_n 2, 1) := by decide +kernel
theorem dX4_play_121 : decode cX4_play 121 = .ok (.iconst 3, 1) := by decide +kernel
theorem dX4_play_122 : decode cX4_play 122 = .ok (.invokevirtual 93, 3) := by decide +kernel
theorem dX4_play_125 : decode cX4_play 125 = .ok (.aload_n 0, 1) := by decide +kernel
theorem dX4_play_126 : decode cX4_play 126 = .ok (.getfield 33, 3) := by decide +kernel
theorem dX4_play_129 : decode cX4_play 129 = .ok (.iload_n 2, 1) := by decide +kernel
theorem dX4_play_130 : decode cX4_play 130 = .ok (.iconst 4, 1) := by decide +kernel
theorem dX4_play_131 : decode cX4_play 131 = .ok (.invokevirtual 93, 3) := by decide +kernel
theorem dX4_play_134 : decode cX4_play 134 = .ok (.aload_n 0, 1) := by decide +kernel
theorem dX4_play_135 : decode cX4_play 135 = .ok (.getfield 33, 3) := by decide +kernel
theorem dX4_play_138 : decode cX4_play 138 = .ok (.iload_n 2, 1) := by decide +kernel
theorem dX4_play_139 : decode cX4_play 139 = .ok (.iconst 5, 1) := by decide +kernel
theorem dX4_play_140 : decode cX4_play 140 = .ok (.invokevirtual 93, 3) := by decide +kernel
theorem dX4_play_143 : decode cX4_play 143 = .ok (.invokevirtual 100, 3) := by decide +kernel
theorem dX4_play_146 : decode cX4_play 146 = .ok (.istore 5, 2) := by decide +kernel
theorem dX4_play_148 : decode cX4_play 148 = .ok (.goto 9, 3) := by decide +kernel
theorem dX4_play_151 : decode cX4_play 151 = .ok (.aload_n 0, 1) := by decide +kernel
theorem dX4_play_152 : decode cX4_play 152 = .ok (.invokevirtual 104, 3) := by decide +kernel
theorem dX4_play_155 : decode cX4_play 155 = .ok (.istore 5, 2) := by decide +kernel
theorem dX4_play_157 : decode cX4_play 157 = .ok (.iload 5, 2) := by decide +kernel
theorem dX4_play_159 : decode cX4_play 159 = .ok (.ifCond .eq 5, 3) := by decide +kernel
theorem dX4_play_162 : decode cX4_play 162 = .ok (.iload_n 2, 1) := by decide +kernel
theorem dX4_play_163 : decode cX4_play 163 = .ok (.ireturn, 1) := by decide +kernel
theorem dX4_play_164 : decode cX4_play 164 = .ok (.iinc 2 1, 3) := by decide +kernel
theorem dX4_play_167 : decode cX4_play 167 = .ok (.goto (-134), 3) := by decide +kernel
theorem dX4_play_170 : decode cX4_play 170 = .ok (.aload_n 0, 1) := by decide +kernel
theorem dX4_play_171 : decode cX4_play 171 = .ok (.getfield 33, 3) := by decide +kernel
theorem dX4_play_174 : decode cX4_play 174 = .ok (.getfield 84, 3) := by decide +kernel
theorem dX4_play_177 : decode cX4_play 177 = .ok (.ireturn, 1) := by decide +kernel
theorem dX4_count_0 : decode cX4_count 0 = .ok (.iload_n 1, 1) := by decide +kernel
theorem dX4_count_1 : decode cX4_count 1 = .ok (.ifCond .lt 9, 3) := by decide +kernel
theorem dX4_count_4 : decode cX4_count 4 = .ok (.iload_n 1, 1) := by decide +kernel
theorem dX4_count_5 : decode cX4_count 5 = .ok (.bipush 15, 2) := by decide +kernel
theorem dX4_count_7 : decode cX4_count 7 = .ok (.if_icmp .le 11, 3) := by decide +kernel
theorem dX4_count_10 : decode cX4_count 10 = .ok (.new 67, 3) := by decide +kernel
theorem dX4_count_13 : decode cX4_count 13 = .ok (.dup, 1) := by decide +kernel
theorem dX4_count_14 : decode cX4_count 14 = .ok (.invokespecial 69, 3) := by decide +kernel
theorem dX4_count_17 : decode cX4_count 17 = .ok (.athrow, 1) := by decide +kernel
theorem dX4_count_18 : decode cX4_count 18 = .ok (.iload_n 1, 1) := by decide +kernel
theorem dX4_count_19 : decode cX4_count 19 = .ok (.bipush 7, 2) := by decide +kernel
theorem dX4_count_21 : decode cX4_count 21 = .ok (.if_icmp .ge 13, 3) := by decide +kernel
theorem dX4_count_24 : decode cX4_count 24 = .ok (.aload_n 0, 1) := by decide +kernel
theorem dX4_count_25 : decode cX4_count 25 = .ok (.getfield 10, 3) := by decide +kernel
theorem dX4_count_28 : decode cX4_count 28 = .ok (.getfield 87, 3) := by decide +kernel
theorem dX4_count_31 : decode cX4_count 31 = .ok (.iload_n 1, 1) := by decide +kernel
theorem dX4_count_32 : decode cX4_count 32 = .ok (.iaload, 1) := by decide +kernel
theorem dX4_count_33 : decode cX4_count 33 = .ok (.ireturn, 1) := by decide +kernel
theorem dX4_count_34 : decode cX4_count 34 = .ok (.iload_n 1, 1) := by decide +kernel
theorem dX4_count_35 : decode cX4_count 35 = .ok (.tableswitch 144 7 14 #[45, 53, 75, 91, 99, 107, 123, 128], 45) := by decide +kernel
theorem dX4_count_80 : decode cX4_count 80 = .ok (.aload_n 0, 1) := by decide +kernel
theorem dX4_count_81 : decode cX4_count 81 = .ok (.getfield 10, 3) := by decide +kernel
theorem dX4_count_84 : decode cX4_count 84 = .ok (.getfield 114, 3) := by decide +kernel
theorem dX4_count_87 : decode cX4_count 87 = .ok (.ireturn, 1) := by decide +kernel
theorem dX4_count_88 : decode cX4_count 88 = .ok (.aload_n 0, 1) := by decide +kernel
theorem dX4_count_89 : decode cX4_count 89 = .ok (.getfield 10, 3) := by decide +kernel
theorem dX4_count_92 : decode cX4_count 92 = .ok (.getfield 117, 3) := by decide +kernel
theorem dX4_count_95 : decode cX4_count 95 = .ok (.ifCond .eq 7, 3) := by decide +kernel
theorem dX4_count_98 : decode cX4_count 98 = .ok (.iconst (-1), 1) := by decide +kernel
theorem dX4_count_99 : decode cX4_count 99 = .ok (.goto 10, 3) := by decide +kernel
theorem dX4_count_102 : decode cX4_count 102 = .ok (.aload_n 0, 1) := by decide +kernel
theorem dX4_count_103 : decode cX4_count 103 = .ok (.getfield 10, 3) := by decide +kernel
theorem dX4_count_106 : decode cX4_count 106 = .ok (.invokevirtual 121, 3) := by decide +kernel
theorem dX4_count_109 : decode cX4_count 109 = .ok (.ireturn, 1) := by decide +kernel
theorem dX4_count_110 : decode cX4_count 110 = .ok (.aload_n 0, 1) := by decide +kernel
theorem dX4_count_111 : decode cX4_count 111 = .ok (.getfield 10, 3) := by decide +kernel
theorem dX4_count_114 : decode cX4_count 114 = .ok (.getfield 117, 3) := by decide +kernel
theorem dX4_count_117 : decode cX4_count 117 = .ok (.ifCond .eq 7, 3) := by decide +kernel
theorem dX4_count_120 : decode cX4_count 120 = .ok (.iconst 1, 1) := by decide +kernel
theorem dX4_count_121 : decode cX4_count 121 = .ok (.goto 4, 3) := by decide +kernel
theorem dX4_count_124 : decode cX4_count 124 = .ok (.iconst 0, 1) := by decide +kernel
theorem dX4_count_125 : decode cX4_count 125 = .ok (.ireturn, 1) := by decide +kernel
theorem dX4_count_126 : decode cX4_count 126 = .ok (.aload_n 0, 1) := by decide +kernel
theorem dX4_count_127 : decode cX4_count 127 = .ok (.getfield 10, 3) := by decide +kernel
theorem dX4_count_130 : decode cX4_count 130 = .ok (.invokevirtual 124, 3) := by decide +kernel
theorem dX4_count_133 : decode cX4_count 133 = .ok (.ireturn, 1) := by decide +kernel
theorem dX4_count_134 : decode cX4_count 134 = .ok (.aload_n 0, 1) := by decide +kernel
theorem dX4_count_135 : decode cX4_count 135 = .ok (.getfield 10, 3) := by decide +kernel
theorem dX4_count_138 : decode cX4_count 138 = .ok (.invokevirtual 127, 3) := by decide +kernel
theorem dX4_count_141 : decode cX4_count 141 = .ok (.ireturn, 1) := by decide +kernel
theorem dX4_count_142 : decode cX4_count 142 = .ok (.aload_n 0, 1) := by decide +kernel
theorem dX4_count_143 : decode cX4_count 143 = .ok (.getfield 10, 3) := by decide +kernel
theorem dX4_count_146 : decode cX4_count 146 = .ok (.getfield 114, 3) := by decide +kernel
theorem dX4_count_149 : decode cX4_count 149 = .ok (.aload_n 0, 1) := by decide +kernel
theorem dX4_count_150 : decode cX4_count 150 = .ok (.getfield 10, 3) := by decide +kernel
theorem dX4_count_153 : decode cX4_count 153 = .ok (.invokevirtual 127, 3) := by decide +kernel
theorem dX4_count_156 : decode cX4_count 156 = .ok (.isub, 1) := by decide +kernel
theorem dX4_count_157 : decode cX4_count 157 = .ok (.ireturn, 1) := by decide +kernel
theorem dX4_count_158 : decode cX4_count 158 = .ok (.aload_n 0, 1) := by decide +kernel
theorem dX4_count_159 : decode cX4_count 159 = .ok (.getfield 81, 3) := by decide +kernel
theorem dX4_count_162 : decode cX4_count 162 = .ok (.ireturn, 1) := by decide +kernel
theorem dX4_count_163 : decode cX4_count 163 = .ok (.aload_n 0, 1) := by decide +kernel
theorem dX4_count_164 : decode cX4_count 164 = .ok (.getfield 10, 3) := by decide +kernel
theorem dX4_count_167 : decode cX4_count 167 = .ok (.invokevirtual 130, 3) := by decide +kernel
theorem dX4_count_170 : decode cX4_count 170 = .ok (.ifCond .eq 7, 3) := by decide +kernel
theorem dX4_count_173 : decode cX4_count 173 = .ok (.iconst 1, 1) := by decide +kernel
theorem dX4_count_174 : decode cX4_count 174 = .ok (.goto 4, 3) := by decide +kernel
theorem dX4_count_177 : decode cX4_count 177 = .ok (.iconst 0, 1) := by decide +kernel
theorem dX4_count_178 : decode cX4_count 178 = .ok (.ireturn, 1) := by decide +kernel
theorem dX4_count_179 : decode cX4_count 179 = .ok (.aload_n 0, 1) := by decide +kernel
theorem dX4_count_180 : decode cX4_count 180 = .ok (.getfield 10, 3) := by decide +kernel
theorem dX4_count_183 : decode cX4_count 183 = .ok (.getfield 134, 3) := by decide +kernel
theorem dX4_count_186 : decode cX4_count 186 = .ok (.ireturn, 1) := by decide +kernel
theorem dX4_power_0 : decode cX4_power 0 = .ok (.aload_n 0, 1) := by decide +kernel
theorem dX4_power_1 : decode cX4_power 1 = .ok (.getfield 10, 3) := by decide +kernel
theorem dX4_power_4 : decode cX4_power 4 = .ok (.iload_n 1, 1) := by decide +kernel
theorem dX4_power_5 : decode cX4_power 5 = .ok (.invokevirtual 137, 3) := by decide +kernel
theorem dX4_power_8 : decode cX4_power 8 = .ok (.ifCond .ne 11, 3) := by decide +kernel
theorem dX4_power_11 : decode cX4_power 11 = .ok (.new 140, 3) := by decide +kernel
theorem dX4_power_14 : decode cX4_power 14 = .ok (.dup, 1) := by decide +kernel
theorem dX4_power_15 : decode cX4_power 15 = .ok (.invokespecial 142, 3) := by decide +kernel
theorem dX4_power_18 : decode cX4_power 18 = .ok (.athrow, 1) := by decide +kernel
theorem dX4_power_19 : decode cX4_power 19 = .ok (.iload_n 2, 1) := by decide +kernel
theorem dX4_power_20 : decode cX4_power 20 = .ok (.ifCond .lt 8, 3) := by decide +kernel
theorem dX4_power_23 : decode cX4_power 23 = .ok (.iload_n 2, 1) := by decide +kernel
theorem dX4_power_24 : decode cX4_power 24 = .ok (.iconst 4, 1) := by decide +kernel
theorem dX4_power_25 : decode cX4_power 25 = .ok (.if_icmp .le 11, 3) := by decide +kernel
theorem dX4_power_28 : decode cX4_power 28 = .ok (.new 67, 3) := by decide +kernel
theorem dX4_power_31 : decode cX4_power 31 = .ok (.dup, 1) := by decide +kernel
theorem dX4_power_32 : decode cX4_power 32 = .ok (.invokespecial 69, 3) := by decide +kernel
theorem dX4_power_35 : decode cX4_power 35 = .ok (.athrow, 1) := by decide +kernel
theorem dX4_power_36 : decode cX4_power 36 = .ok (.aload_n 0, 1) := by decide +kernel
theorem dX4_power_37 : decode cX4_power 37 = .ok (.getfield 10, 3) := by decide +kernel
theorem dX4_power_40 : decode cX4_power 40 = .ok (.iload_n 1, 1) := by decide +kernel
theorem dX4_power_41 : decode cX4_power 41 = .ok (.invokevirtual 143, 3) := by decide +kernel
theorem dX4_power_44 : decode cX4_power 44 = .ok (.istore_n 3, 1) := by decide +kernel
theorem dX4_power_45 : decode cX4_power 45 = .ok (.iload_n 2, 1) := by decide +kernel
theorem dX4_power_46 : decode cX4_power 46 = .ok (.tableswitch 68 0 3 #[30, 40, 57, 66], 30) := by decide +kernel
theorem dX4_power_76 : decode cX4_power 76 = .ok (.aload_n 0, 1) := by decide +kernel
theorem dX4_power_77 : decode cX4_power 77 = .ok (.getfield 10, 3) := by decide +kernel
theorem dX4_power_80 : decode cX4_power 80 = .ok (.getfield 147, 3) := by decide +kernel
theorem dX4_power_83 : decode cX4_power 83 = .ok (.iload_n 1, 1) := by decide +kernel
theorem dX4_power_84 : decode cX4_power 84 = .ok (.iaload, 1) := by decide +kernel
theorem dX4_power_85 : decode cX4_power 85 = .ok (.ireturn, 1) := by decide +kernel
theorem dX4_power_86 : decode cX4_power 86 = .ok (.aload_n 0, 1) := by decide +kernel
theorem dX4_power_87 : decode cX4_power 87 = .ok (.getfield 10, 3) := by decide +kernel
theorem dX4_power_90 : decode cX4_power 90 = .ok (.iload_n 1, 1) := by decide +kernel
theorem dX4_power_91 : decode cX4_power 91 = .ok (.invokevirtual 150, 3) := by decide +kernel
theorem dX4_power_94 : decode cX4_power 94 = .ok (.ifCond .eq 7, 3) := by decide +kernel
theorem dX4_power_97 : decode cX4_power 97 = .ok (.iconst 1, 1) := by decide +kernel
theorem dX4_power_98 : decode cX4_power 98 = .ok (.goto 4, 3) := by decide +kernel
theorem dX4_power_101 : decode cX4_power 101 = .ok (.iconst 0, 1) := by decide +kernel
theorem dX4_power_102 : decode cX4_power 102 = .ok (.ireturn, 1) := by decide +kernel
theorem dX4_power_103 : decode cX4_power 103 = .ok (.aload_n 0, 1) := by decide +kernel
theorem dX4_power_104 : decode cX4_power 104 = .ok (.getfield 10, 3) := by decide +kernel
theorem dX4_power_107 : decode cX4_power 107 = .ok (.iload_n 1, 1) := by decide +kernel
theorem dX4_power_108 : decode cX4_power 108 = .ok (.invokevirtual 153, 3) := by decide +kernel
theorem dX4_power_111 : decode cX4_power 111 = .ok (.ireturn, 1) := by decide +kernel
theorem dX4_power_112 : decode cX4_power 112 = .ok (.iload_n 3, 1) := by decide +kernel
theorem dX4_power_113 : decode cX4_power 113 = .ok (.ireturn, 1) := by decide +kernel
theorem dX4_power_114 : decode cX4_power 114 = .ok (.iload_n 3, 1) := by decide +kernel
theorem dX4_power_115 : decode cX4_power 115 = .ok (.iconst (-1), 1) := by decide +kernel
theorem dX4_power_116 : decode cX4_power 116 = .ok (.if_icmp .ne 7, 3) := by decide +kernel
theorem dX4_power_119 : decode cX4_power 119 = .ok (.iconst (-1), 1) := by decide +kernel
theorem dX4_power_120 : decode cX4_power 120 = .ok (.goto 6, 3) := by decide +kernel
theorem dX4_power_123 : decode cX4_power 123 = .ok (.iload_n 3, 1) := by decide +kernel
theorem dX4_power_124 : decode cX4_power 124 = .ok (.iconst 2, 1) := by decide +kernel
theorem dX4_power_125 : decode cX4_power 125 = .ok (.irem, 1) := by decide +kernel
theorem dX4_power_126 : decode cX4_power 126 = .ok (.ireturn, 1) := by decide +kernel
theorem dX4_player_0 : decode cX4_player 0 = .ok (.iload_n 1, 1) := by decide +kernel
theorem dX4_player_1 : decode cX4_player 1 = .ok (.invokestatic 156, 3) := by decide +kernel
theorem dX4_player_4 : decode cX4_player 4 = .ok (.ifCond .ne 11, 3) := by decide +kernel
theorem dX4_player_7 : decode cX4_player 7 = .ok (.new 140, 3) := by decide +kernel
theorem dX4_player_10 : decode cX4_player 10 = .ok (.dup, 1) := by decide +kernel
theorem dX4_player_11 : decode cX4_player 11 = .ok (.invokespecial 142, 3) := by decide +kernel
theorem dX4_player_14 : decode cX4_player 14 = .ok (.athrow, 1) := by decide +kernel
theorem dX4_player_15 : decode cX4_player 15 = .ok (.iload_n 2, 1) := by decide +kernel
theorem dX4_player_16 : decode cX4_player 16 = .ok (.ifCond .lt 9, 3) := by decide +kernel
theorem dX4_player_19 : decode cX4_player 19 = .ok (.iload_n 2, 1) := by decide +kernel
theorem dX4_player_20 : decode cX4_player 20 = .ok (.bipush 7, 2) := by decide +kernel
theorem dX4_player_22 : decode cX4_player 22 = .ok (.if_icmp .le 11, 3) := by decide +kernel
theorem dX4_player_25 : decode cX4_player 25 = .ok (.new 67, 3) := by decide +kernel
theorem dX4_player_28 : decode cX4_player 28 = .ok (.dup, 1) := by decide +kernel
theorem dX4_player_29 : decode cX4_player 29 = .ok (.invokespecial 69, 3) := by decide +kernel
theorem dX4_player_32 : decode cX4_player 32 = .ok (.athrow, 1) := by decide +kernel
theorem dX4_player_33 : decode cX4_player 33 = .ok (.aload_n 0, 1) := by decide +kernel
theorem dX4_player_34 : decode cX4_player 34 = .ok (.aload_n 0, 1) := by decide +kernel
theorem dX4_player_35 : decode cX4_player 35 = .ok (.getfield 10, 3) := by decide +kernel
theorem dX4_player_38 : decode cX4_player 38 = .ok (.getfield 147, 3) := by decide +kernel
theorem dX4_player_41 : decode cX4_player 41 = .ok (.invokevirtual 162, 3) := by decide +kernel
theorem dX4_player_44 : decode cX4_player 44 = .ok (.iload_n 2, 1) := by decide +kernel
theorem dX4_player_45 : decode cX4_player 45 = .ok (.tableswitch 118 0 6 #[43, 56, 65, 78, 87, 96, 105], 43) := by decide +kernel
theorem dX4_player_88 : decode cX4_player 88 = .ok (.aload_n 0, 1) := by decide +kernel
theorem dX4_player_89 : decode cX4_player 89 = .ok (.getfield 10, 3) := by decide +kernel
theorem dX4_player_92 : decode cX4_player 92 = .ok (.iload_n 1, 1) := by decide +kernel
theorem dX4_player_93 : decode cX4_player 93 = .ok (.aload_n 0, 1) := by decide +kernel
theorem dX4_player_94 : decode cX4_player 94 = .ok (.getfield 26, 3) := by decide +kernel
theorem dX4_player_97 : decode cX4_player 97 = .ok (.invokevirtual 174, 3) := by decide +kernel
theorem dX4_player_100 : decode cX4_player 100 = .ok (.ireturn, 1) := by decide +kernel
theorem dX4_player_101 : decode cX4_player 101 = .ok (.aload_n 0, 1) := by decide +kernel
theorem dX4_player_102 : decode cX4_player 102 = .ok (.getfield 10, 3) := by decide +kernel
theorem dX4_player_105 : decode cX4_player 105 = .ok (.iload_n 1, 1) := by decide +kernel
theorem dX4_player_106 : decode cX4_player 106 = .ok (.invokevirtual 178, 3) := by decide +kernel
theorem dX4_player_109 : decode cX4_player 109 = .ok (.ireturn, 1) := by decide +kernel
theorem dX4_player_110 : decode cX4_player 110 = .ok (.aload_n 0, 1) := by decide +kernel
theorem dX4_player_111 : decode cX4_player 111 = .ok (.getfield 10, 3) := by decide +kernel
theorem dX4_player_114 : decode cX4_player 114 = .ok (.iload_n 1, 1) := by decide +kernel
theorem dX4_player_115 : decode cX4_player 115 = .ok (.aload_n 0, 1) := by decide +kernel
theorem dX4_player_116 : decode cX4_player 116 = .ok (.getfield 26, 3) := by decide +kernel
theorem dX4_player_119 : decode cX4_player 119 = .ok (.invokevirtual 181, 3) := by decide +kernel
theorem dX4_player_122 : decode cX4_player 122 = .ok (.ireturn, 1) := by decide +kernel
theorem dX4_player_123 : decode cX4_player 123 = .ok (.aload_n 0, 1) := by decide +kernel
theorem dX4_player_124 : decode cX4_player 124 = .ok (.getfield 10, 3) := by decide +kernel
theorem dX4_player_127 : decode cX4_player 127 = .ok (.iload_n 1, 1) := by decide +kernel
theorem dX4_player_128 : decode cX4_player 128 = .ok (.invokevirtual 184, 3) := by decide +kernel
theorem dX4_player_131 : decode cX4_player 131 = .ok (.ireturn, 1) := by decide +kernel
theorem dX4_player_132 : decode cX4_player 132 = .ok (.aload_n 0, 1) := by decide +kernel
theorem dX4_player_133 : decode cX4_player 133 = .ok (.getfield 10, 3) := by decide +kernel
theorem dX4_player_136 : decode cX4_player 136 = .ok (.iload_n 1, 1) := by decide +kernel
theorem dX4_player_137 : decode cX4_player 137 = .ok (.invokevirtual 159, 3) := by decide +kernel
theorem dX4_player_140 : decode cX4_player 140 = .ok (.ireturn, 1) := by decide +kernel
theorem dX4_player_141 : decode cX4_player 141 = .ok (.aload_n 0, 1) := by decide +kernel
theorem dX4_player_142 : decode cX4_player 142 = .ok (.getfield 10, 3) := by decide +kernel
theorem dX4_player_145 : decode cX4_player 145 = .ok (.iload_n 1, 1) := by decide +kernel
theorem dX4_player_146 : decode cX4_player 146 = .ok (.invokevirtual 187, 3) := by decide +kernel
theorem dX4_player_149 : decode cX4_player 149 = .ok (.ireturn, 1) := by decide +kernel
theorem dX4_player_150 : decode cX4_player 150 = .ok (.aload_n 0, 1) := by decide +kernel
theorem dX4_player_151 : decode cX4_player 151 = .ok (.getfield 10, 3) := by decide +kernel
theorem dX4_player_154 : decode cX4_player 154 = .ok (.iload_n 1, 1) := by decide +kernel
theorem dX4_player_155 : decode cX4_player 155 = .ok (.aload_n 0, 1) := by decide +kernel
theorem dX4_player_156 : decode cX4_player 156 = .ok (.getfield 26, 3) := by decide +kernel
theorem dX4_player_159 : decode cX4_player 159 = .ok (.invokevirtual 190, 3) := by decide +kernel
theorem dX4_player_162 : decode cX4_player 162 = .ok (.ireturn, 1) := by decide +kernel
theorem dX4_player_163 : decode cX4_player 163 = .ok (.aload_n 0, 1) := by decide +kernel
theorem dX4_player_164 : decode cX4_player 164 = .ok (.getfield 10, 3) := by decide +kernel
theorem dX4_player_167 : decode cX4_player 167 = .ok (.iload_n 1, 1) := by decide +kernel
theorem dX4_player_168 : decode cX4_player 168 = .ok (.invokevirtual 193, 3) := by decide +kernel
theorem dX4_player_171 : decode cX4_player 171 = .ok (.ireturn, 1) := by decide +kernel
theorem dX4_winner_0 : decode cX4_winner 0 = .ok (.aload_n 0, 1) := by decide +kernel
theorem dX4_winner_1 : decode cX4_winner 1 = .ok (.getfield 10, 3) := by decide +kernel
theorem dX4_winner_4 : decode cX4_winner 4 = .ok (.getfield 117, 3) := by decide +kernel
theorem dX4_winner_7 : decode cX4_winner 7 = .ok (.ifCond .ne 5, 3) := by decide +kernel
theorem dX4_winner_10 : decode cX4_winner 10 = .ok (.iconst (-1), 1) := by decide +kernel
theorem dX4_winner_11 : decode cX4_winner 11 = .ok (.ireturn, 1) := by decide +kernel
theorem dX4_winner_12 : decode cX4_winner 12 = .ok (.aload_n 0, 1) := by decide +kernel
theorem dX4_winner_13 : decode cX4_winner 13 = .ok (.aload_n 0, 1) := by decide +kernel
theorem dX4_winner_14 : decode cX4_winner 14 = .ok (.getfield 10, 3) := by decide +kernel
theorem dX4_winner_17 : decode cX4_winner 17 = .ok (.getfield 147, 3) := by decide +kernel
theorem dX4_winner_20 : decode cX4_winner 20 = .ok (.invokevirtual 162, 3) := by decide +kernel
theorem dX4_winner_23 : decode cX4_winner 23 = .ok (.aload_n 0, 1) := by decide +kernel
theorem dX4_winner_24 : decode cX4_winner 24 = .ok (.getfield 10, 3) := by decide +kernel
theorem dX4_winner_27 : decode cX4_winner 27 = .ok (.iconst 0, 1) := by decide +kernel
theorem dX4_winner_28 : decode cX4_winner 28 = .ok (.aload_n 0, 1) := by decide +kernel
theorem dX4_winner_29 : decode cX4_winner 29 = .ok (.getfield 26, 3) := by decide +kernel
theorem dX4_winner_32 : decode cX4_winner 32 = .ok (.invokevirtual 174, 3) := by decide +kernel
theorem dX4_winner_35 : decode cX4_winner 35 = .ok (.istore_n 1, 1) := by decide +kernel
theorem dX4_winner_36 : decode cX4_winner 36 = .ok (.aload_n 0, 1) := by decide +kernel
theorem dX4_winner_37 : decode cX4_winner 37 = .ok (.getfield 10, 3) := by decide +kernel
theorem dX4_winner_40 : decode cX4_winner 40 = .ok (.iconst 1, 1) := by decide +kernel
theorem dX4_winner_41 : decode cX4_winner 41 = .ok (.aload_n 0, 1) := by decide +kernel
theorem dX4_winner_42 : decode cX4_winner 42 = .ok (.getfield 26, 3) := by decide +kernel
theorem dX4_winner_45 : decode cX4_winner 45 = .ok (.invokevirtual 174, 3) := by decide +kernel
theorem dX4_winner_48 : decode cX4_winner 48 = .ok (.istore_n 2, 1) := by decide +kernel
theorem dX4_winner_49 : decode cX4_winner 49 = .ok (.iload_n 1, 1) := by decide +kernel
theorem dX4_winner_50 : decode cX4_winner 50 = .ok (.iload_n 2, 1) := by decide +kernel
theorem dX4_winner_51 : decode cX4_winner 51 = .ok (.if_icmp .ne 5, 3) := by decide +kernel
theorem dX4_winner_54 : decode cX4_winner 54 = .ok (.iconst 2, 1) := by decide +kernel
theorem dX4_winner_55 : decode cX4_winner 55 = .ok (.ireturn, 1) := by decide +kernel
theorem dX4_winner_56 : decode cX4_winner 56 = .ok (.iload_n 1, 1) := by decide +kernel
theorem dX4_winner_57 : decode cX4_winner 57 = .ok (.iload_n 2, 1) := by decide +kernel
theorem dX4_winner_58 : decode cX4_winner 58 = .ok (.if_icmp .le 7, 3) := by decide +kernel
theorem dX4_winner_61 : decode cX4_winner 61 = .ok (.iconst 0, 1) := by decide +kernel
theorem dX4_winner_62 : decode cX4_winner 62 = .ok (.goto 4, 3) := by decide +kernel
theorem dX4_winner_65 : decode cX4_winner 65 = .ok (.iconst 1, 1) := by decide +kernel
theorem dX4_winner_66 : decode cX4_winner 66 = .ok (.ireturn, 1) := by decide +kernel
theorem dX4_claim_0 : decode cX4_claim 0 = .ok (.iload_n 1, 1) := by decide +kernel
theorem dX4_claim_1 : decode cX4_claim 1 = .ok (.iload_n 2, 1) := by decide +kernel
theorem dX4_claim_2 : decode cX4_claim 2 = .ok (.invokestatic 196, 3) := by decide +kernel
theorem dX4_claim_5 : decode cX4_claim 5 = .ok (.ifCond .eq 25, 3) := by decide +kernel
theorem dX4_claim_8 : decode cX4_claim 8 = .ok (.iload_n 3, 1) := by decide +kernel
theorem dX4_claim_9 : decode cX4_claim 9 = .ok (.ifCond .lt 21, 3) := by decide +kernel
theorem dX4_claim_12 : decode cX4_claim 12 = .ok (.iload_n 3, 1) := by decide +kernel
theorem dX4_claim_13 : decode cX4_claim 13 = .ok (.iconst 4, 1) := by decide +kernel
theorem dX4_claim_14 : decode cX4_claim 14 = .ok (.if_icmp .gt 16, 3) := by decide +kernel
theorem dX4_claim_17 : decode cX4_claim 17 = .ok (.iload 5, 2) := by decide +kernel
theorem dX4_claim_19 : decode cX4_claim 19 = .ok (.iconst 1, 1) := by decide +kernel
theorem dX4_claim_20 : decode cX4_claim 20 = .ok (.if_icmp .lt 10, 3) := by decide +kernel
theorem dX4_claim_23 : decode cX4_claim 23 = .ok (.iload 5, 2) := by decide +kernel
theorem dX4_claim_25 : decode cX4_claim 25 = .ok (.bipush 9, 2) := by decide +kernel
theorem dX4_claim_27 : decode cX4_claim 27 = .ok (.if_icmp .le 11, 3) := by decide +kernel
theorem dX4_claim_30 : decode cX4_claim 30 = .ok (.new 67, 3) := by decide +kernel
theorem dX4_claim_33 : decode cX4_claim 33 = .ok (.dup, 1) := by decide +kernel
theorem dX4_claim_34 : decode cX4_claim 34 = .ok (.invokespecial 69, 3) := by decide +kernel
theorem dX4_claim_37 : decode cX4_claim 37 = .ok (.athrow, 1) := by decide +kernel
theorem dX4_claim_38 : decode cX4_claim 38 = .ok (.aload_n 0, 1) := by decide +kernel
theorem dX4_claim_39 : decode cX4_claim 39 = .ok (.iload_n 1, 1) := by decide +kernel
theorem dX4_claim_40 : decode cX4_claim 40 = .ok (.iload_n 2, 1) := by decide +kernel
theorem dX4_claim_41 : decode cX4_claim 41 = .ok (.iload_n 3, 1) := by decide +kernel
theorem dX4_claim_42 : decode cX4_claim 42 = .ok (.iload 4, 2) := by decide +kernel
theorem dX4_claim_44 : decode cX4_claim 44 = .ok (.ifCond .eq 7, 3) := by decide +kernel
theorem dX4_claim_47 : decode cX4_claim 47 = .ok (.iconst 1, 1) := by decide +kernel
theorem dX4_claim_48 : decode cX4_claim 48 = .ok (.goto 4, 3) := by decide +kernel
theorem dX4_claim_51 : decode cX4_claim 51 = .ok (.iconst 0, 1) := by decide +kernel
theorem dX4_claim_52 : decode cX4_claim 52 = .ok (.iload 5, 2) := by decide +kernel
theorem dX4_claim_54 : decode cX4_claim 54 = .ok (.invokevirtual 100, 3) := by decide +kernel
theorem dX4_claim_57 : decode cX4_claim 57 = .ok (.ireturn, 1) := by decide +kernel
theorem dX4_lay_0 : decode cX4_lay 0 = .ok (.aload_n 0, 1) := by decide +kernel
theorem dX4_lay_1 : decode cX4_lay 1 = .ok (.getfield 10, 3) := by decide +kernel
theorem dX4_lay_4 : decode cX4_lay 4 = .ok (.iload_n 2, 1) := by decide +kernel
theorem dX4_lay_5 : decode cX4_lay 5 = .ok (.invokevirtual 137, 3) := by decide +kernel
theorem dX4_lay_8 : decode cX4_lay 8 = .ok (.ifCond .ne 11, 3) := by decide +kernel
theorem dX4_lay_11 : decode cX4_lay 11 = .ok (.new 140, 3) := by decide +kernel
theorem dX4_lay_14 : decode cX4_lay 14 = .ok (.dup, 1) := by decide +kernel
theorem dX4_lay_15 : decode cX4_lay 15 = .ok (.invokespecial 142, 3) := by decide +kernel
theorem dX4_lay_18 : decode cX4_lay 18 = .ok (.athrow, 1) := by decide +kernel
theorem dX4_lay_19 : decode cX4_lay 19 = .ok (.iload_n 1, 1) := by decide +kernel
theorem dX4_lay_20 : decode cX4_lay 20 = .ok (.invokestatic 200, 3) := by decide +kernel
theorem dX4_lay_23 : decode cX4_lay 23 = .ok (.ifCond .ne 11, 3) := by decide +kernel
theorem dX4_lay_26 : decode cX4_lay 26 = .ok (.new 67, 3) := by decide +kernel
theorem dX4_lay_29 : decode cX4_lay 29 = .ok (.dup, 1) := by decide +kernel
theorem dX4_lay_30 : decode cX4_lay 30 = .ok (.invokespecial 69, 3) := by decide +kernel
theorem dX4_lay_33 : decode cX4_lay 33 = .ok (.athrow, 1) := by decide +kernel
theorem dX4_lay_34 : decode cX4_lay 34 = .ok (.aload_n 0, 1) := by decide +kernel
theorem dX4_lay_35 : decode cX4_lay 35 = .ok (.iload_n 1, 1) := by decide +kernel
theorem dX4_lay_36 : decode cX4_lay 36 = .ok (.iload_n 2, 1) := by decide +kernel
theorem dX4_lay_37 : decode cX4_lay 37 = .ok (.invokevirtual 97, 3) := by decide +kernel
theorem dX4_lay_40 : decode cX4_lay 40 = .ok (.ireturn, 1) := by decide +kernel
theorem dX4_pass_0 : decode cX4_pass 0 = .ok (.aload_n 0, 1) := by decide +kernel
theorem dX4_pass_1 : decode cX4_pass 1 = .ok (.invokevirtual 104, 3) := by decide +kernel
theorem dX4_pass_4 : decode cX4_pass 4 = .ok (.ireturn, 1) := by decide +kernel
theorem dX4_why_0 : decode cX4_why 0 = .ok (.aload_n 0, 1) := by decide +kernel
theorem dX4_why_1 : decode cX4_why 1 = .ok (.getfield 10, 3) := by decide +kernel
theorem dX4_why_4 : decode cX4_why 4 = .ok (.iload_n 2, 1) := by decide +kernel
theorem dX4_why_5 : decode cX4_why 5 = .ok (.invokevirtual 137, 3) := by decide +kernel
theorem dX4_why_8 : decode cX4_why 8 = .ok (.ifCond .ne 11, 3) := by decide +kernel
theorem dX4_why_11 : decode cX4_why 11 = .ok (.new 140, 3) := by decide +kernel
theorem dX4_why_14 : decode cX4_why 14 = .ok (.dup, 1) := by decide +kernel
theorem dX4_why_15 : decode cX4_why 15 = .ok (.invokespecial 142, 3) := by decide +kernel
theorem dX4_why_18 : decode cX4_why 18 = .ok (.athrow, 1) := by decide +kernel
theorem dX4_why_19 : decode cX4_why 19 = .ok (.iload_n 1, 1) := by decide +kernel
theorem dX4_why_20 : decode cX4_why 20 = .ok (.invokestatic 200, 3) := by decide +kernel
theorem dX4_why_23 : decode cX4_why 23 = .ok (.ifCond .ne 11, 3) := by decide +kernel
theorem dX4_why_26 : decode cX4_why 26 = .ok (.new 67, 3) := by decide +kernel
theorem dX4_why_29 : decode cX4_why 29 = .ok (.dup, 1) := by decide +kernel
theorem dX4_why_30 : decode cX4_why 30 = .ok (.invokespecial 69, 3) := by decide +kernel
theorem dX4_why_33 : decode cX4_why 33 = .ok (.athrow, 1) := by decide +kernel
theorem dX4_why_34 : decode cX4_why 34 = .ok (.aload_n 0, 1) := by decide +kernel
theorem dX4_why_35 : decode cX4_why 35 = .ok (.getfield 10, 3) := by decide +kernel
theorem dX4_why_38 : decode cX4_why 38 = .ok (.iload_n 1, 1) := by decide +kernel
theorem dX4_why_39 : decode cX4_why 39 = .ok (.iload_n 2, 1) := by decide +kernel
theorem dX4_why_40 : decode cX4_why 40 = .ok (.invokevirtual 203, 3) := by decide +kernel
theorem dX4_why_43 : decode cX4_why 43 = .ok (.ireturn, 1) := by decide +kernel
theorem dX4_best_0 : decode cX4_best 0 = .ok (.iconst (-1), 1) := by decide +kernel
theorem dX4_best_1 : decode cX4_best 1 = .ok (.istore_n 1, 1) := by decide +kernel
theorem dX4_best_2 : decode cX4_best 2 = .ok (.iconst 0, 1) := by decide +kernel
theorem dX4_best_3 : decode cX4_best 3 = .ok (.istore_n 2, 1) := by decide +kernel
theorem dX4_best_4 : decode cX4_best 4 = .ok (.aload_n 0, 1) := by decide +kernel
theorem dX4_best_5 : decode cX4_best 5 = .ok (.getfield 16, 3) := by decide +kernel
theorem dX4_best_8 : decode cX4_best 8 = .ok (.aload_n 0, 1) := by decide +kernel
theorem dX4_best_9 : decode cX4_best 9 = .ok (.getfield 10, 3) := by decide +kernel
theorem dX4_best_12 : decode cX4_best 12 = .ok (.invokevirtual 77, 3) := by decide +kernel
theorem dX4_best_15 : decode cX4_best 15 = .ok (.iconst 0, 1) := by decide +kernel
theorem dX4_best_16 : decode cX4_best 16 = .ok (.istore_n 3, 1) := by decide +kernel
theorem dX4_best_17 : decode cX4_best 17 = .ok (.iload_n 3, 1) := by decide +kernel
theorem dX4_best_18 : decode cX4_best 18 = .ok (.aload_n 0, 1) := by decide +kernel
theorem dX4_best_19 : decode cX4_best 19 = .ok (.getfield 10, 3) := by decide +kernel
theorem dX4_best_22 : decode cX4_best 22 = .ok (.getfield 87, 3) := by decide +kernel
theorem dX4_best_25 : decode cX4_best 25 = .ok (.iconst 0, 1) := by decide +kernel
theorem dX4_best_26 : decode cX4_best 26 = .ok (.iaload, 1) := by decide +kernel
theorem dX4_best_27 : decode cX4_best 27 = .ok (.if_icmp .ge 81, 3) := by decide +kernel
theorem dX4_best_30 : decode cX4_best 30 = .ok (.bipush (-9), 2) := by decide +kernel
theorem dX4_best_32 : decode cX4_best 32 = .ok (.istore 4, 2) := by decide +kernel
theorem dX4_best_34 : decode cX4_best 34 = .ok (.iload 4, 2) := by decide +kernel
theorem dX4_best_36 : decode cX4_best 36 = .ok (.bipush 9, 2) := by decide +kernel
theorem dX4_best_38 : decode cX4_best 38 = .ok (.if_icmp .gt 64, 3) := by decide +kernel
theorem dX4_best_41 : decode cX4_best 41 = .ok (.iload 4, 2) := by decide +kernel
theorem dX4_best_43 : decode cX4_best 43 = .ok (.ifCond .eq 53, 3) := by decide +kernel
theorem dX4_best_46 : decode cX4_best 46 = .ok (.aload_n 0, 1) := by decide +kernel
theorem dX4_best_47 : decode cX4_best 47 = .ok (.getfield 10, 3) := by decide +kernel
theorem dX4_best_50 : decode cX4_best 50 = .ok (.iload 4, 2) := by decide +kernel
theorem dX4_best_52 : decode cX4_best 52 = .ok (.iload_n 3, 1) := by decide +kernel
theorem dX4_best_53 : decode cX4_best 53 = .ok (.invokevirtual 203, 3) := by decide +kernel
theorem dX4_best_56 : decode cX4_best 56 = .ok (.ifCond .eq 6, 3) := by decide +kernel
theorem dX4_best_59 : decode cX4_best 59 = .ok (.goto 37, 3) := by decide +kernel
theorem dX4_best_62 : decode cX4_best 62 = .ok (.aload_n 0, 1) := by decide +kernel
theorem dX4_best_63 : decode cX4_best 63 = .ok (.iload 4, 2) := by decide +kernel
theorem dX4_best_65 : decode cX4_best 65 = .ok (.iload_n 3, 1) := by decide +kernel
theorem dX4_best_66 : decode cX4_best 66 = .ok (.invokevirtual 206, 3) := by decide +kernel
theorem dX4_best_69 : decode cX4_best 69 = .ok (.istore 5, 2) := by decide +kernel
theorem dX4_best_71 : decode cX4_best 71 = .ok (.iload_n 1, 1) := by decide +kernel
theorem dX4_best_72 : decode cX4_best 72 = .ok (.iconst (-1), 1) := by decide +kernel
theorem dX4_best_73 : decode cX4_best 73 = .ok (.if_icmp .eq 9, 3) := by decide +kernel
theorem dX4_best_76 : decode cX4_best 76 = .ok (.iload 5, 2) := by decide +kernel
theorem dX4_best_78 : decode cX4_best 78 = .ok (.iload_n 2, 1) := by decide +kernel
theorem dX4_best_79 : decode cX4_best 79 = .ok (.if_icmp .le 17, 3) := by decide +kernel
theorem dX4_best_82 : decode cX4_best 82 = .ok (.bipush 20, 2) := by decide +kernel
theorem dX4_best_84 : decode cX4_best 84 = .ok (.iload_n 3, 1) := by decide +kernel
theorem dX4_best_85 : decode cX4_best 85 = .ok (.imul, 1) := by decide +kernel
theorem dX4_best_86 : decode cX4_best 86 = .ok (.iload 4, 2) := by decide +kernel
theorem dX4_best_88 : decode cX4_best 88 = .ok (.iadd, 1) := by decide +kernel
theorem dX4_best_89 : decode cX4_best 89 = .ok (.bipush 10, 2) := by decide +kernel
theorem dX4_best_91 : decode cX4_best 91 = .ok (.iadd, 1) := by decide +kernel
theorem dX4_best_92 : decode cX4_best 92 = .ok (.istore_n 1, 1) := by decide +kernel
theorem dX4_best_93 : decode cX4_best 93 = .ok (.iload 5, 2) := by decide +kernel
theorem dX4_best_95 : decode cX4_best 95 = .ok (.istore_n 2, 1) := by decide +kernel
theorem dX4_best_96 : decode cX4_best 96 = .ok (.iinc 4 1, 3) := by decide +kernel
theorem dX4_best_99 : decode cX4_best 99 = .ok (.goto (-65), 3) := by decide +kernel
theorem dX4_best_102 : decode cX4_best 102 = .ok (.iinc 3 1, 3) := by decide +kernel
theorem dX4_best_105 : decode cX4_best 105 = .ok (.goto (-88), 3) := by decide +kernel
theorem dX4_best_108 : decode cX4_best 108 = .ok (.iload_n 1, 1) := by decide +kernel
theorem dX4_best_109 : decode cX4_best 109 = .ok (.ireturn, 1) := by decide +kernel
theorem dX4_behind_0 : decode cX4_behind 0 = .ok (.aload_n 0, 1) := by decide +kernel
theorem dX4_behind_1 : decode cX4_behind 1 = .ok (.getfield 10, 3) := by decide +kernel
theorem dX4_behind_4 : decode cX4_behind 4 = .ok (.iload_n 2, 1) := by decide +kernel
theorem dX4_behind_5 : decode cX4_behind 5 = .ok (.invokevirtual 137, 3) := by decide +kernel
theorem dX4_behind_8 : decode cX4_behind 8 = .ok (.ifCond .ne 11, 3) := by decide +kernel
theorem dX4_behind_11 : decode cX4_behind 11 = .ok (.new 140, 3) := by decide +kernel
theorem dX4_behind_14 : decode cX4_behind 14 = .ok (.dup, 1) := by decide +kernel
theorem dX4_behind_15 : decode cX4_behind 15 = .ok (.invokespecial 142, 3) := by decide +kernel
theorem dX4_behind_18 : decode cX4_behind 18 = .ok (.athrow, 1) := by decide +kernel
theorem dX4_behind_19 : decode cX4_behind 19 = .ok (.iload_n 1, 1) := by decide +kernel
theorem dX4_behind_20 : decode cX4_behind 20 = .ok (.invokestatic 200, 3) := by decide +kernel
theorem dX4_behind_23 : decode cX4_behind 23 = .ok (.ifCond .eq 12, 3) := by decide +kernel
theorem dX4_behind_26 : decode cX4_behind 26 = .ok (.iload_n 3, 1) := by decide +kernel
theorem dX4_behind_27 : decode cX4_behind 27 = .ok (.ifCond .lt 8, 3) := by decide +kernel
theorem dX4_behind_30 : decode cX4_behind 30 = .ok (.iload_n 3, 1) := by decide +kernel
theorem dX4_behind_31 : decode cX4_behind 31 = .ok (.iconst 3, 1) := by decide +kernel
theorem dX4_behind_32 : decode cX4_behind 32 = .ok (.if_icmp .le 11, 3) := by decide +kernel
theorem dX4_behind_35 : decode cX4_behind 35 = .ok (.new 67, 3) := by decide +kernel
theorem dX4_behind_38 : decode cX4_behind 38 = .ok (.dup, 1) := by decide +kernel
theorem dX4_behind_39 : decode cX4_behind 39 = .ok (.invokespecial 69, 3) := by decide +kernel
theorem dX4_behind_42 : decode cX4_behind 42 = .ok (.athrow, 1) := by decide +kernel
theorem dX4_behind_43 : decode cX4_behind 43 = .ok (.aload_n 0, 1) := by decide +kernel
theorem dX4_behind_44 : decode cX4_behind 44 = .ok (.getfield 10, 3) := by decide +kernel
theorem dX4_behind_47 : decode cX4_behind 47 = .ok (.iload_n 1, 1) := by decide +kernel
theorem dX4_behind_48 : decode cX4_behind 48 = .ok (.iload_n 2, 1) := by decide +kernel
theorem dX4_behind_49 : decode cX4_behind 49 = .ok (.invokevirtual 203, 3) := by decide +kernel
theorem dX4_behind_52 : decode cX4_behind 52 = .ok (.ifCond .eq 11, 3) := by decide +kernel
theorem dX4_behind_55 : decode cX4_behind 55 = .ok (.new 56, 3) := by decide +kernel
theorem dX4_behind_58 : decode cX4_behind 58 = .ok (.dup, 1) := by decide +kernel
theorem dX4_behind_59 : decode cX4_behind 59 = .ok (.invokespecial 58, 3) := by decide +kernel
theorem dX4_behind_62 : decode cX4_behind 62 = .ok (.athrow, 1) := by decide +kernel
theorem dX4_behind_63 : decode cX4_behind 63 = .ok (.aload_n 0, 1) := by decide +kernel
theorem dX4_behind_64 : decode cX4_behind 64 = .ok (.getfield 16, 3) := by decide +kernel
theorem dX4_behind_67 : decode cX4_behind 67 = .ok (.aload_n 0, 1) := by decide +kernel
theorem dX4_behind_68 : decode cX4_behind 68 = .ok (.getfield 10, 3) := by decide +kernel
theorem dX4_behind_71 : decode cX4_behind 71 = .ok (.invokevirtual 77, 3) := by decide +kernel
theorem dX4_behind_74 : decode cX4_behind 74 = .ok (.aload_n 0, 1) := by decide +kernel
theorem dX4_behind_75 : decode cX4_behind 75 = .ok (.getfield 16, 3) := by decide +kernel
theorem dX4_behind_78 : decode cX4_behind 78 = .ok (.iload_n 1, 1) := by decide +kernel
theorem dX4_behind_79 : decode cX4_behind 79 = .ok (.iload_n 2, 1) := by decide +kernel
theorem dX4_behind_80 : decode cX4_behind 80 = .ok (.aload_n 0, 1) := by decide +kernel
theorem dX4_behind_81 : decode cX4_behind 81 = .ok (.getfield 26, 3) := by decide +kernel
theorem dX4_behind_84 : decode cX4_behind 84 = .ok (.invokevirtual 209, 3) := by decide +kernel
theorem dX4_behind_87 : decode cX4_behind 87 = .ok (.aload_n 0, 1) := by decide +kernel
theorem dX4_behind_88 : decode cX4_behind 88 = .ok (.aload_n 0, 1) := by decide +kernel
theorem dX4_behind_89 : decode cX4_behind 89 = .ok (.getfield 16, 3) := by decide +kernel
theorem dX4_behind_92 : decode cX4_behind 92 = .ok (.getfield 147, 3) := by decide +kernel
theorem dX4_behind_95 : decode cX4_behind 95 = .ok (.invokevirtual 162, 3) := by decide +kernel
theorem dX4_behind_98 : decode cX4_behind 98 = .ok (.iload_n 3, 1) := by decide +kernel
theorem dX4_behind_99 : decode cX4_behind 99 = .ok (.tableswitch 59 0 2 #[25, 33, 46], 25) := by decide +kernel
theorem dX4_behind_124 : decode cX4_behind 124 = .ok (.aload_n 0, 1) := by decide +kernel
theorem dX4_behind_125 : decode cX4_behind 125 = .ok (.getfield 26, 3) := by decide +kernel
theorem dX4_behind_128 : decode cX4_behind 128 = .ok (.invokevirtual 213, 3) := by decide +kernel
theorem dX4_behind_131 : decode cX4_behind 131 = .ok (.ireturn, 1) := by decide +kernel
theorem dX4_behind_132 : decode cX4_behind 132 = .ok (.aload_n 0, 1) := by decide +kernel
theorem dX4_behind_133 : decode cX4_behind 133 = .ok (.getfield 16, 3) := by decide +kernel
theorem dX4_behind_136 : decode cX4_behind 136 = .ok (.iconst 0, 1) := by decide +kernel
theorem dX4_behind_137 : decode cX4_behind 137 = .ok (.aload_n 0, 1) := by decide +kernel
theorem dX4_behind_138 : decode cX4_behind 138 = .ok (.getfield 26, 3) := by decide +kernel
theorem dX4_behind_141 : decode cX4_behind 141 = .ok (.invokevirtual 174, 3) := by decide +kernel
theorem dX4_behind_144 : decode cX4_behind 144 = .ok (.ireturn, 1) := by decide +kernel
theorem dX4_behind_145 : decode cX4_behind 145 = .ok (.aload_n 0, 1) := by decide +kernel
theorem dX4_behind_146 : decode cX4_behind 146 = .ok (.getfield 16, 3) := by decide +kernel
theorem dX4_behind_149 : decode cX4_behind 149 = .ok (.iconst 1, 1) := by decide +kernel
theorem dX4_behind_150 : decode cX4_behind 150 = .ok (.aload_n 0, 1) := by decide +kernel
theorem dX4_behind_151 : decode cX4_behind 151 = .ok (.getfield 26, 3) := by decide +kernel
theorem dX4_behind_154 : decode cX4_behind 154 = .ok (.invokevirtual 174, 3) := by decide +kernel
theorem dX4_behind_157 : decode cX4_behind 157 = .ok (.ireturn, 1) := by decide +kernel
theorem dX4_behind_158 : decode cX4_behind 158 = .ok (.aload_n 0, 1) := by decide +kernel
theorem dX4_behind_159 : decode cX4_behind 159 = .ok (.getfield 16, 3) := by decide +kernel
theorem dX4_behind_162 : decode cX4_behind 162 = .ok (.getfield 117, 3) := by decide +kernel
theorem dX4_behind_165 : decode cX4_behind 165 = .ok (.ifCond .eq 7, 3) := by decide +kernel
theorem dX4_behind_168 : decode cX4_behind 168 = .ok (.iconst 1, 1) := by decide +kernel
theorem dX4_behind_169 : decode cX4_behind 169 = .ok (.goto 4, 3) := by decide +kernel
theorem dX4_behind_172 : decode cX4_behind 172 = .ok (.iconst 0, 1) := by decide +kernel
theorem dX4_behind_173 : decode cX4_behind 173 = .ok (.ireturn, 1) := by decide +kernel
theorem dX4_degree_0 : decode cX4_degree 0 = .ok (.iconst 4, 1) := by decide +kernel
theorem dX4_degree_1 : decode cX4_degree 1 = .ok (.istore_n 1, 1) := by decide +kernel
theorem dX4_degree_2 : decode cX4_degree 2 = .ok (.iload_n 1, 1) := by decide +kernel
theorem dX4_degree_3 : decode cX4_degree 3 = .ok (.ifCond .lt 23, 3) := by decide +kernel
theorem dX4_degree_6 : decode cX4_degree 6 = .ok (.aload_n 0, 1) := by decide +kernel
theorem dX4_degree_7 : decode cX4_degree 7 = .ok (.getfield 10, 3) := by decide +kernel
theorem dX4_degree_10 : decode cX4_degree 10 = .ok (.getfield 147, 3) := by decide +kernel
theorem dX4_degree_13 : decode cX4_degree 13 = .ok (.iload_n 1, 1) := by decide +kernel
theorem dX4_degree_14 : decode cX4_degree 14 = .ok (.iaload, 1) := by decide +kernel
theorem dX4_degree_15 : decode cX4_degree 15 = .ok (.ifCond .eq 5, 3) := by decide +kernel
theorem dX4_degree_18 : decode cX4_degree 18 = .ok (.iload_n 1, 1) := by decide +kernel
theorem dX4_degree_19 : decode cX4_degree 19 = .ok (.ireturn, 1) := by decide +kernel
theorem dX4_degree_20 : decode cX4_degree 20 = .ok (.iinc 1 (-1), 3) := by decide +kernel
theorem dX4_degree_23 : decode cX4_degree 23 = .ok (.goto (-21), 3) := by decide +kernel
theorem dX4_degree_26 : decode cX4_degree 26 = .ok (.iconst (-1), 1) := by decide +kernel
theorem dX4_degree_27 : decode cX4_degree 27 = .ok (.ireturn, 1) := by decide +kernel
theorem dX4_value_0 : decode cX4_value 0 = .ok (.iload_n 1, 1) := by decide +kernel
theorem dX4_value_1 : decode cX4_value 1 = .ok (.invokestatic 216, 3) := by decide +kernel
theorem dX4_value_4 : decode cX4_value 4 = .ok (.ifCond .ne 11, 3) := by decide +kernel
theorem dX4_value_7 : decode cX4_value 7 = .ok (.new 67, 3) := by decide +kernel
theorem dX4_value_10 : decode cX4_value 10 = .ok (.dup, 1) := by decide +kernel
theorem dX4_value_11 : decode cX4_value 11 = .ok (.invokespecial 69, 3) := by decide +kernel
theorem dX4_value_14 : decode cX4_value 14 = .ok (.athrow, 1) := by decide +kernel
theorem dX4_value_15 : decode cX4_value 15 = .ok (.aload_n 0, 1) := by decide +kernel
theorem dX4_value_16 : decode cX4_value 16 = .ok (.getfield 10, 3) := by decide +kernel
theorem dX4_value_19 : decode cX4_value 19 = .ok (.iload_n 1, 1) := by decide +kernel
theorem dX4_value_20 : decode cX4_value 20 = .ok (.invokevirtual 219, 3) := by decide +kernel
theorem dX4_value_23 : decode cX4_value 23 = .ok (.lreturn, 1) := by decide +kernel
theorem dX4_roots_0 : decode cX4_roots 0 = .ok (.iload_n 1, 1) := by decide +kernel
theorem dX4_roots_1 : decode cX4_roots 1 = .ok (.iload_n 2, 1) := by decide +kernel
theorem dX4_roots_2 : decode cX4_roots 2 = .ok (.invokestatic 196, 3) := by decide +kernel
theorem dX4_roots_5 : decode cX4_roots 5 = .ok (.ifCond .ne 11, 3) := by decide +kernel
theorem dX4_roots_8 : decode cX4_roots 8 = .ok (.new 67, 3) := by decide +kernel
theorem dX4_roots_11 : decode cX4_roots 11 = .ok (.dup, 1) := by decide +kernel
theorem dX4_roots_12 : decode cX4_roots 12 = .ok (.invokespecial 69, 3) := by decide +kernel
theorem dX4_roots_15 : decode cX4_roots 15 = .ok (.athrow, 1) := by decide +kernel
theorem dX4_roots_16 : decode cX4_roots 16 = .ok (.aload_n 0, 1) := by decide +kernel
theorem dX4_roots_17 : decode cX4_roots 17 = .ok (.aload_n 0, 1) := by decide +kernel
theorem dX4_roots_18 : decode cX4_roots 18 = .ok (.getfield 10, 3) := by decide +kernel
theorem dX4_roots_21 : decode cX4_roots 21 = .ok (.getfield 147, 3) := by decide +kernel
theorem dX4_roots_24 : decode cX4_roots 24 = .ok (.invokevirtual 162, 3) := by decide +kernel
theorem dX4_roots_27 : decode cX4_roots 27 = .ok (.aload_n 0, 1) := by decide +kernel
theorem dX4_roots_28 : decode cX4_roots 28 = .ok (.getfield 26, 3) := by decide +kernel
theorem dX4_roots_31 : decode cX4_roots 31 = .ok (.iload_n 1, 1) := by decide +kernel
theorem dX4_roots_32 : decode cX4_roots 32 = .ok (.iload_n 2, 1) := by decide +kernel
theorem dX4_roots_33 : decode cX4_roots 33 = .ok (.invokevirtual 223, 3) := by decide +kernel
theorem dX4_roots_36 : decode cX4_roots 36 = .ok (.ireturn, 1) := by decide +kernel
theorem dX4_allRoots_0 : decode cX4_allRoots 0 = .ok (.aload_n 0, 1) := by decide +kernel
theorem dX4_allRoots_1 : decode cX4_allRoots 1 = .ok (.aload_n 0, 1) := by decide +kernel
theorem dX4_allRoots_2 : decode cX4_allRoots 2 = .ok (.getfield 10, 3) := by decide +kernel
theorem dX4_allRoots_5 : decode cX4_allRoots 5 = .ok (.getfield 147, 3) := by decide +kernel
theorem dX4_allRoots_8 : decode cX4_allRoots 8 = .ok (.invokevirtual 162, 3) := by decide +kernel
theorem dX4_allRoots_11 : decode cX4_allRoots 11 = .ok (.aload_n 0, 1) := by decide +kernel
theorem dX4_allRoots_12 : decode cX4_allRoots 12 = .ok (.getfield 26, 3) := by decide +kernel
theorem dX4_allRoots_15 : decode cX4_allRoots 15 = .ok (.invokevirtual 213, 3) := by decide +kernel
theorem dX4_allRoots_18 : decode cX4_allRoots 18 = .ok (.ireturn, 1) := by decide +kernel
theorem dX4_rootsOfSign_0 : decode cX4_rootsOfSign 0 = .ok (.iload_n 1, 1) := by decide +kernel
theorem dX4_rootsOfSign_1 : decode cX4_rootsOfSign 1 = .ok (.iconst (-1), 1) := by decide +kernel
theorem dX4_rootsOfSign_2 : decode cX4_rootsOfSign 2 = .ok (.if_icmp .lt 8, 3) := by decide +kernel
theorem dX4_rootsOfSign_5 : decode cX4_rootsOfSign 5 = .ok (.iload_n 1, 1) := by decide +kernel
theorem dX4_rootsOfSign_6 : decode cX4_rootsOfSign 6 = .ok (.iconst 1, 1) := by decide +kernel
theorem dX4_rootsOfSign_7 : decode cX4_rootsOfSign 7 = .ok (.if_icmp .le 11, 3) := by decide +kernel
theorem dX4_rootsOfSign_10 : decode cX4_rootsOfSign 10 = .ok (.new 67, 3) := by decide +kernel
theorem dX4_rootsOfSign_13 : decode cX4_rootsOfSign 13 = .ok (.dup, 1) := by decide +kernel
theorem dX4_rootsOfSign_14 : decode cX4_rootsOfSign 14 = .ok (.invokespecial 69, 3) := by decide +kernel
theorem dX4_rootsOfSign_17 : decode cX4_rootsOfSign 17 = .ok (.athrow, 1) := by decide +kernel
theorem dX4_rootsOfSign_18 : decode cX4_rootsOfSign 18 = .ok (.aload_n 0, 1) := by decide +kernel
theorem dX4_rootsOfSign_19 : decode cX4_rootsOfSign 19 = .ok (.aload_n 0, 1) := by decide +kernel
theorem dX4_rootsOfSign_20 : decode cX4_rootsOfSign 20 = .ok (.getfield 10, 3) := by decide +kernel
theorem dX4_rootsOfSign_23 : decode cX4_rootsOfSign 23 = .ok (.getfield 147, 3) := by decide +kernel
theorem dX4_rootsOfSign_26 : decode cX4_rootsOfSign 26 = .ok (.invokevirtual 162, 3) := by decide +kernel
theorem dX4_rootsOfSign_29 : decode cX4_rootsOfSign 29 = .ok (.aload_n 0, 1) := by decide +kernel
theorem dX4_rootsOfSign_30 : decode cX4_rootsOfSign 30 = .ok (.getfield 26, 3) := by decide +kernel
theorem dX4_rootsOfSign_33 : decode cX4_rootsOfSign 33 = .ok (.getfield 226, 3) := by decide +kernel
theorem dX4_rootsOfSign_36 : decode cX4_rootsOfSign 36 = .ok (.ifCond .ne 5, 3) := by decide +kernel
theorem dX4_rootsOfSign_39 : decode cX4_rootsOfSign 39 = .ok (.iconst (-1), 1) := by decide +kernel
theorem dX4_rootsOfSign_40 : decode cX4_rootsOfSign 40 = .ok (.ireturn, 1) := by decide +kernel
theorem dX4_rootsOfSign_41 : decode cX4_rootsOfSign 41 = .ok (.aload_n 0, 1) := by decide +kernel
theorem dX4_rootsOfSign_42 : decode cX4_rootsOfSign 42 = .ok (.getfield 10, 3) := by decide +kernel
theorem dX4_rootsOfSign_45 : decode cX4_rootsOfSign 45 = .ok (.getfield 147, 3) := by decide +kernel
theorem dX4_rootsOfSign_48 : decode cX4_rootsOfSign 48 = .ok (.iconst 0, 1) := by decide +kernel
theorem dX4_rootsOfSign_49 : decode cX4_rootsOfSign 49 = .ok (.iaload, 1) := by decide +kernel
theorem dX4_rootsOfSign_50 : decode cX4_rootsOfSign 50 = .ok (.ifCond .ne 7, 3) := by decide +kernel
theorem dX4_rootsOfSign_53 : decode cX4_rootsOfSign 53 = .ok (.iconst 1, 1) := by decide +kernel
theorem dX4_rootsOfSign_54 : decode cX4_rootsOfSign 54 = .ok (.goto 4, 3) := by decide +kernel
theorem dX4_rootsOfSign_57 : decode cX4_rootsOfSign 57 = .ok (.iconst 0, 1) := by decide +kernel
theorem dX4_rootsOfSign_58 : decode cX4_rootsOfSign 58 = .ok (.istore_n 2, 1) := by decide +kernel
theorem dX4_rootsOfSign_59 : decode cX4_rootsOfSign 59 = .ok (.iload_n 1, 1) := by decide +kernel
theorem dX4_rootsOfSign_60 : decode cX4_rootsOfSign 60 = .ok (.ifCond .ne 5, 3) := by decide +kernel
theorem dX4_rootsOfSign_63 : decode cX4_rootsOfSign 63 = .ok (.iload_n 2, 1) := by decide +kernel
theorem dX4_rootsOfSign_64 : decode cX4_rootsOfSign 64 = .ok (.ireturn, 1) := by decide +kernel
theorem dX4_rootsOfSign_65 : decode cX4_rootsOfSign 65 = .ok (.iload_n 1, 1) := by decide +kernel
theorem dX4_rootsOfSign_66 : decode cX4_rootsOfSign 66 = .ok (.ifCond .le 14, 3) := by decide +kernel
theorem dX4_rootsOfSign_69 : decode cX4_rootsOfSign 69 = .ok (.aload_n 0, 1) := by decide +kernel
theorem dX4_rootsOfSign_70 : decode cX4_rootsOfSign 70 = .ok (.getfield 26, 3) := by decide +kernel
theorem dX4_rootsOfSign_73 : decode cX4_rootsOfSign 73 = .ok (.iconst 0, 1) := by decide +kernel
theorem dX4_rootsOfSign_74 : decode cX4_rootsOfSign 74 = .ok (.bipush 31, 2) := by decide +kernel
theorem dX4_rootsOfSign_76 : decode cX4_rootsOfSign 76 = .ok (.invokevirtual 223, 3) := by decide +kernel
theorem dX4_rootsOfSign_79 : decode cX4_rootsOfSign 79 = .ok (.ireturn, 1) := by decide +kernel
theorem dX4_rootsOfSign_80 : decode cX4_rootsOfSign 80 = .ok (.aload_n 0, 1) := by decide +kernel
theorem dX4_rootsOfSign_81 : decode cX4_rootsOfSign 81 = .ok (.getfield 26, 3) := by decide +kernel
theorem dX4_rootsOfSign_84 : decode cX4_rootsOfSign 84 = .ok (.bipush (-31), 2) := by decide +kernel
theorem dX4_rootsOfSign_86 : decode cX4_rootsOfSign 86 = .ok (.iconst 0, 1) := by decide +kernel
theorem dX4_rootsOfSign_87 : decode cX4_rootsOfSign 87 = .ok (.invokevirtual 223, 3) := by decide +kernel
theorem dX4_rootsOfSign_90 : decode cX4_rootsOfSign 90 = .ok (.iload_n 2, 1) := by decide +kernel
theorem dX4_rootsOfSign_91 : decode cX4_rootsOfSign 91 = .ok (.isub, 1) := by decide +kernel
theorem dX4_rootsOfSign_92 : decode cX4_rootsOfSign 92 = .ok (.ireturn, 1) := by decide +kernel
theorem dX4_multiplicity_0 : decode cX4_multiplicity 0 = .ok (.iload_n 1, 1) := by decide +kernel
theorem dX4_multiplicity_1 : decode cX4_multiplicity 1 = .ok (.invokestatic 216, 3) := by decide +kernel
theorem dX4_multiplicity_4 : decode cX4_multiplicity 4 = .ok (.ifCond .ne 11, 3) := by decide +kernel
theorem dX4_multiplicity_7 : decode cX4_multiplicity 7 = .ok (.new 67, 3) := by decide +kernel
theorem dX4_multiplicity_10 : decode cX4_multiplicity 10 = .ok (.dup, 1) := by decide +kernel
theorem dX4_multiplicity_11 : decode cX4_multiplicity 11 = .ok (.invokespecial 69, 3) := by decide +kernel
theorem dX4_multiplicity_14 : decode cX4_multiplicity 14 = .ok (.athrow, 1) := by decide +kernel
theorem dX4_multiplicity_15 : decode cX4_multiplicity 15 = .ok (.aload_n 0, 1) := by decide +kernel
theorem dX4_multiplicity_16 : decode cX4_multiplicity 16 = .ok (.iload_n 1, 1) := by decide +kernel
theorem dX4_multiplicity_17 : decode cX4_multiplicity 17 = .ok (.invokevirtual 229, 3) := by decide +kernel
theorem dX4_multiplicity_20 : decode cX4_multiplicity 20 = .ok (.iconst 0, 1) := by decide +kernel
theorem dX4_multiplicity_21 : decode cX4_multiplicity 21 = .ok (.istore_n 2, 1) := by decide +kernel
theorem dX4_multiplicity_22 : decode cX4_multiplicity 22 = .ok (.iload_n 2, 1) := by decide +kernel
theorem dX4_multiplicity_23 : decode cX4_multiplicity 23 = .ok (.iconst 5, 1) := by decide +kernel
theorem dX4_multiplicity_24 : decode cX4_multiplicity 24 = .ok (.if_icmp .ge 22, 3) := by decide +kernel
theorem dX4_multiplicity_27 : decode cX4_multiplicity 27 = .ok (.aload_n 0, 1) := by decide +kernel
theorem dX4_multiplicity_28 : decode cX4_multiplicity 28 = .ok (.getfield 48, 3) := by decide +kernel
theorem dX4_multiplicity_31 : decode cX4_multiplicity 31 = .ok (.iload_n 2, 1) := by decide +kernel
theorem dX4_multiplicity_32 : decode cX4_multiplicity 32 = .ok (.laload, 1) := by decide +kernel
theorem dX4_multiplicity_33 : decode cX4_multiplicity 33 = .ok (.lconst 0, 1) := by decide +kernel
theorem dX4_multiplicity_34 : decode cX4_multiplicity 34 = .ok (.lcmp, 1) := by decide +kernel
theorem dX4_multiplicity_35 : decode cX4_multiplicity 35 = .ok (.ifCond .eq 5, 3) := by decide +kernel
theorem dX4_multiplicity_38 : decode cX4_multiplicity 38 = .ok (.iload_n 2, 1) := by decide +kernel
theorem dX4_multiplicity_39 : decode cX4_multiplicity 39 = .ok (.ireturn, 1) := by decide +kernel
theorem dX4_multiplicity_40 : decode cX4_multiplicity 40 = .ok (.iinc 2 1, 3) := by decide +kernel
theorem dX4_multiplicity_43 : decode cX4_multiplicity 43 = .ok (.goto (-21), 3) := by decide +kernel
theorem dX4_multiplicity_46 : decode cX4_multiplicity 46 = .ok (.iconst (-1), 1) := by decide +kernel
theorem dX4_multiplicity_47 : decode cX4_multiplicity 47 = .ok (.ireturn, 1) := by decide +kernel
theorem dX4_near_0 : decode cX4_near 0 = .ok (.aload_n 0, 1) := by decide +kernel
theorem dX4_near_1 : decode cX4_near 1 = .ok (.aload_n 0, 1) := by decide +kernel
theorem dX4_near_2 : decode cX4_near 2 = .ok (.getfield 10, 3) := by decide +kernel
theorem dX4_near_5 : decode cX4_near 5 = .ok (.getfield 147, 3) := by decide +kernel
theorem dX4_near_8 : decode cX4_near 8 = .ok (.invokevirtual 162, 3) := by decide +kernel
theorem dX4_near_11 : decode cX4_near 11 = .ok (.iload_n 1, 1) := by decide +kernel
theorem dX4_near_12 : decode cX4_near 12 = .ok (.ifCond .lt 14, 3) := by decide +kernel
theorem dX4_near_15 : decode cX4_near 15 = .ok (.iload_n 1, 1) := by decide +kernel
theorem dX4_near_16 : decode cX4_near 16 = .ok (.aload_n 0, 1) := by decide +kernel
theorem dX4_near_17 : decode cX4_near 17 = .ok (.getfield 26, 3) := by decide +kernel
theorem dX4_near_20 : decode cX4_near 20 = .ok (.invokevirtual 213, 3) := by decide +kernel
theorem dX4_near_23 : decode cX4_near 23 = .ok (.if_icmp .lt 11, 3) := by decide +kernel
theorem dX4_near_26 : decode cX4_near 26 = .ok (.new 140, 3) := by decide +kernel
theorem dX4_near_29 : decode cX4_near 29 = .ok (.dup, 1) := by decide +kernel
theorem dX4_near_30 : decode cX4_near 30 = .ok (.invokespecial 142, 3) := by decide +kernel
theorem dX4_near_33 : decode cX4_near 33 = .ok (.athrow, 1) := by decide +kernel
theorem dX4_near_34 : decode cX4_near 34 = .ok (.iload_n 2, 1) := by decide +kernel
theorem dX4_near_35 : decode cX4_near 35 = .ok (.ifCond .lt 9, 3) := by decide +kernel
theorem dX4_near_38 : decode cX4_near 38 = .ok (.iload_n 2, 1) := by decide +kernel
theorem dX4_near_39 : decode cX4_near 39 = .ok (.bipush 6, 2) := by decide +kernel
theorem dX4_near_41 : decode cX4_near 41 = .ok (.if_icmp .le 11, 3) := by decide +kernel
theorem dX4_near_44 : decode cX4_near 44 = .ok (.new 67, 3) := by decide +kernel
theorem dX4_near_47 : decode cX4_near 47 = .ok (.dup, 1) := by decide +kernel
theorem dX4_near_48 : decode cX4_near 48 = .ok (.invokespecial 69, 3) := by decide +kernel
theorem dX4_near_51 : decode cX4_near 51 = .ok (.athrow, 1) := by decide +kernel
theorem dX4_near_52 : decode cX4_near 52 = .ok (.aload_n 0, 1) := by decide +kernel
theorem dX4_near_53 : decode cX4_near 53 = .ok (.getfield 26, 3) := by decide +kernel
theorem dX4_near_56 : decode cX4_near 56 = .ok (.iload_n 1, 1) := by decide +kernel
theorem dX4_near_57 : decode cX4_near 57 = .ok (.iload_n 2, 1) := by decide +kernel
theorem dX4_near_58 : decode cX4_near 58 = .ok (.invokevirtual 233, 3) := by decide +kernel
theorem dX4_near_61 : decode cX4_near 61 = .ok (.ireturn, 1) := by decide +kernel
theorem dX4_root_0 : decode cX4_root 0 = .ok (.aload_n 0, 1) := by decide +kernel
theorem dX4_root_1 : decode cX4_root 1 = .ok (.aload_n 0, 1) := by decide +kernel
theorem dX4_root_2 : decode cX4_root 2 = .ok (.getfield 10, 3) := by decide +kernel
theorem dX4_root_5 : decode cX4_root 5 = .ok (.getfield 147, 3) := by decide +kernel
theorem dX4_root_8 : decode cX4_root 8 = .ok (.invokevirtual 162, 3) := by decide +kernel
theorem dX4_root_11 : decode cX4_root 11 = .ok (.iload_n 1, 1) := by decide +kernel
theorem dX4_root_12 : decode cX4_root 12 = .ok (.ifCond .lt 14, 3) := by decide +kernel
theorem dX4_root_15 : decode cX4_root 15 = .ok (.iload_n 1, 1) := by decide +kernel
theorem dX4_root_16 : decode cX4_root 16 = .ok (.aload_n 0, 1) := by decide +kernel
theorem dX4_root_17 : decode cX4_root 17 = .ok (.getfield 26, 3) := by decide +kernel
theorem dX4_root_20 : decode cX4_root 20 = .ok (.invokevirtual 213, 3) := by decide +kernel
theorem dX4_root_23 : decode cX4_root 23 = .ok (.if_icmp .lt 11, 3) := by decide +kernel
theorem dX4_root_26 : decode cX4_root 26 = .ok (.new 140, 3) := by decide +kernel
theorem dX4_root_29 : decode cX4_root 29 = .ok (.dup, 1) := by decide +kernel
theorem dX4_root_30 : decode cX4_root 30 = .ok (.invokespecial 142, 3) := by decide +kernel
theorem dX4_root_33 : decode cX4_root 33 = .ok (.athrow, 1) := by decide +kernel
theorem dX4_root_34 : decode cX4_root 34 = .ok (.aload_n 0, 1) := by decide +kernel
theorem dX4_root_35 : decode cX4_root 35 = .ok (.getfield 26, 3) := by decide +kernel
theorem dX4_root_38 : decode cX4_root 38 = .ok (.iload_n 1, 1) := by decide +kernel
theorem dX4_root_39 : decode cX4_root 39 = .ok (.bipush 6, 2) := by decide +kernel
theorem dX4_root_41 : decode cX4_root 41 = .ok (.invokevirtual 233, 3) := by decide +kernel
theorem dX4_root_44 : decode cX4_root 44 = .ok (.istore_n 2, 1) := by decide +kernel
theorem dX4_root_45 : decode cX4_root 45 = .ok (.iconst 2, 1) := by decide +kernel
theorem dX4_root_46 : decode cX4_root 46 = .ok (.iload_n 2, 1) := by decide +kernel
theorem dX4_root_47 : decode cX4_root 47 = .ok (.imul, 1) := by decide +kernel
theorem dX4_root_48 : decode cX4_root 48 = .ok (.iconst 1, 1) := by decide +kernel
theorem dX4_root_49 : decode cX4_root 49 = .ok (.iadd, 1) := by decide +kernel
theorem dX4_root_50 : decode cX4_root 50 = .ok (.i2d, 1) := by decide +kernel
theorem dX4_root_51 : decode cX4_root 51 = .ok (.ldc2_w 236, 3) := by decide +kernel
theorem dX4_root_54 : decode cX4_root 54 = .ok (.ddiv, 1) := by decide +kernel
theorem dX4_root_55 : decode cX4_root 55 = .ok (.dreturn, 1) := by decide +kernel
theorem dX4_rows_0 : decode cX4_rows 0 = .ok (.aload_n 0, 1) := by decide +kernel
theorem dX4_rows_1 : decode cX4_rows 1 = .ok (.aload_n 0, 1) := by decide +kernel
theorem dX4_rows_2 : decode cX4_rows 2 = .ok (.getfield 10, 3) := by decide +kernel
theorem dX4_rows_5 : decode cX4_rows 5 = .ok (.getfield 147, 3) := by decide +kernel
theorem dX4_rows_8 : decode cX4_rows 8 = .ok (.invokevirtual 162, 3) := by decide +kernel
theorem dX4_rows_11 : decode cX4_rows 11 = .ok (.aload_n 0, 1) := by decide +kernel
theorem dX4_rows_12 : decode cX4_rows 12 = .ok (.getfield 26, 3) := by decide +kernel
theorem dX4_rows_15 : decode cX4_rows 15 = .ok (.getfield 226, 3) := by decide +kernel
theorem dX4_rows_18 : decode cX4_rows 18 = .ok (.ireturn, 1) := by decide +kernel
theorem dX4_changes_0 : decode cX4_changes 0 = .ok (.iload_n 1, 1) := by decide +kernel
theorem dX4_changes_1 : decode cX4_changes 1 = .ok (.iconst 1, 1) := by decide +kernel
theorem dX4_changes_2 : decode cX4_changes 2 = .ok (.if_icmp .lt 15, 3) := by decide +kernel
theorem dX4_changes_5 : decode cX4_changes 5 = .ok (.iload_n 1, 1) := by decide +kernel
theorem dX4_changes_6 : decode cX4_changes 6 = .ok (.iconst 2, 1) := by decide +kernel
theorem dX4_changes_7 : decode cX4_changes 7 = .ok (.if_icmp .gt 10, 3) := by decide +kernel
theorem dX4_changes_10 : decode cX4_changes 10 = .ok (.iload_n 2, 1) := by decide +kernel
theorem dX4_changes_11 : decode cX4_changes 11 = .ok (.invokestatic 216, 3) := by decide +kernel
theorem dX4_changes_14 : decode cX4_changes 14 = .ok (.ifCond .ne 11, 3) := by decide +kernel
theorem dX4_changes_17 : decode cX4_changes 17 = .ok (.new 67, 3) := by decide +kernel
theorem dX4_changes_20 : decode cX4_changes 20 = .ok (.dup, 1) := by decide +kernel
theorem dX4_changes_21 : decode cX4_changes 21 = .ok (.invokespecial 69, 3) := by decide +kernel
theorem dX4_changes_24 : decode cX4_changes 24 = .ok (.athrow, 1) := by decide +kernel
theorem dX4_changes_25 : decode cX4_changes 25 = .ok (.iload_n 1, 1) := by decide +kernel
theorem dX4_changes_26 : decode cX4_changes 26 = .ok (.iconst 2, 1) := by decide +kernel
theorem dX4_changes_27 : decode cX4_changes 27 = .ok (.if_icmp .ne 9, 3) := by decide +kernel
theorem dX4_changes_30 : decode cX4_changes 30 = .ok (.aload_n 0, 1) := by decide +kernel
theorem dX4_changes_31 : decode cX4_changes 31 = .ok (.iload_n 2, 1) := by decide +kernel
theorem dX4_changes_32 : decode cX4_changes 32 = .ok (.invokevirtual 244, 3) := by decide +kernel
theorem dX4_changes_35 : decode cX4_changes 35 = .ok (.ireturn, 1) := by decide +kernel
theorem dX4_changes_36 : decode cX4_changes 36 = .ok (.aload_n 0, 1) := by decide +kernel
theorem dX4_changes_37 : decode cX4_changes 37 = .ok (.aload_n 0, 1) := by decide +kernel
theorem dX4_changes_38 : decode cX4_changes 38 = .ok (.getfield 10, 3) := by decide +kernel
theorem dX4_changes_41 : decode cX4_changes 41 = .ok (.getfield 147, 3) := by decide +kernel
theorem dX4_changes_44 : decode cX4_changes 44 = .ok (.invokevirtual 162, 3) := by decide +kernel
theorem dX4_changes_47 : decode cX4_changes 47 = .ok (.aload_n 0, 1) := by decide +kernel
theorem dX4_changes_48 : decode cX4_changes 48 = .ok (.getfield 26, 3) := by decide +kernel
theorem dX4_changes_51 : decode cX4_changes 51 = .ok (.iload_n 2, 1) := by decide +kernel
theorem dX4_changes_52 : decode cX4_changes 52 = .ok (.invokevirtual 247, 3) := by decide +kernel
theorem dX4_changes_55 : decode cX4_changes 55 = .ok (.ireturn, 1) := by decide +kernel
theorem dX4_surplus_0 : decode cX4_surplus 0 = .ok (.iload_n 1, 1) := by decide +kernel
theorem dX4_surplus_1 : decode cX4_surplus 1 = .ok (.iload_n 2, 1) := by decide +kernel
theorem dX4_surplus_2 : decode cX4_surplus 2 = .ok (.invokestatic 196, 3) := by decide +kernel
theorem dX4_surplus_5 : decode cX4_surplus 5 = .ok (.ifCond .ne 11, 3) := by decide +kernel
theorem dX4_surplus_8 : decode cX4_surplus 8 = .ok (.new 67, 3) := by decide +kernel
theorem dX4_surplus_11 : decode cX4_surplus 11 = .ok (.dup, 1) := by decide +kernel
theorem dX4_surplus_12 : decode cX4_surplus 12 = .ok (.invokespecial 69, 3) := by decide +kernel
theorem dX4_surplus_15 : decode cX4_surplus 15 = .ok (.athrow, 1) := by decide +kernel
theorem dX4_surplus_16 : decode cX4_surplus 16 = .ok (.aload_n 0, 1) := by decide +kernel
theorem dX4_surplus_17 : decode cX4_surplus 17 = .ok (.aload_n 0, 1) := by decide +kernel
theorem dX4_surplus_18 : decode cX4_surplus 18 = .ok (.getfield 10, 3) := by decide +kernel
theorem dX4_surplus_21 : decode cX4_surplus 21 = .ok (.getfield 147, 3) := by decide +kernel
theorem dX4_surplus_24 : decode cX4_surplus 24 = .ok (.invokevirtual 162, 3) := by decide +kernel
theorem dX4_surplus_27 : decode cX4_surplus 27 = .ok (.aload_n 0, 1) := by decide +kernel
theorem dX4_surplus_28 : decode cX4_surplus 28 = .ok (.getfield 26, 3) := by decide +kernel
theorem dX4_surplus_31 : decode cX4_surplus 31 = .ok (.getfield 226, 3) := by decide +kernel
theorem dX4_surplus_34 : decode cX4_surplus 34 = .ok (.ifCond .ne 5, 3) := by decide +kernel
theorem dX4_surplus_37 : decode cX4_surplus 37 = .ok (.iconst (-1), 1) := by decide +kernel
theorem dX4_surplus_38 : decode cX4_surplus 38 = .ok (.ireturn, 1) := by decide +kernel
theorem dX4_surplus_39 : decode cX4_surplus 39 = .ok (.aload_n 0, 1) := by decide +kernel
theorem dX4_surplus_40 : decode cX4_surplus 40 = .ok (.iload_n 1, 1) := by decide +kernel
theorem dX4_surplus_41 : decode cX4_surplus 41 = .ok (.invokevirtual 244, 3) := by decide +kernel
theorem dX4_surplus_44 : decode cX4_surplus 44 = .ok (.aload_n 0, 1) := by decide +kernel
theorem dX4_surplus_45 : decode cX4_surplus 45 = .ok (.iload_n 2, 1) := by decide +kernel
theorem dX4_surplus_46 : decode cX4_surplus 46 = .ok (.invokevirtual 244, 3) := by decide +kernel
theorem dX4_surplus_49 : decode cX4_surplus 49 = .ok (.isub, 1) := by decide +kernel
theorem dX4_surplus_50 : decode cX4_surplus 50 = .ok (.aload_n 0, 1) := by decide +kernel
theorem dX4_surplus_51 : decode cX4_surplus 51 = .ok (.getfield 26, 3) := by decide +kernel
theorem dX4_surplus_54 : decode cX4_surplus 54 = .ok (.iload_n 1, 1) := by decide +kernel
theorem dX4_surplus_55 : decode cX4_surplus 55 = .ok (.iload_n 2, 1) := by decide +kernel
theorem dX4_surplus_56 : decode cX4_surplus 56 = .ok (.invokevirtual 250, 3) := by decide +kernel
theorem dX4_surplus_59 : decode cX4_surplus 59 = .ok (.isub, 1) := by decide +kernel
theorem dX4_surplus_60 : decode cX4_surplus 60 = .ok (.ireturn, 1) := by decide +kernel
theorem dX4_writeTurns_0 : decode cX4_writeTurns 0 = .ok (.aload_n 0, 1) := by decide +kernel
theorem dX4_writeTurns_1 : decode cX4_writeTurns 1 = .ok (.getfield 40, 3) := by decide +kernel
theorem dX4_writeTurns_4 : decode cX4_writeTurns 4 = .ok (.invokevirtual 253, 3) := by decide +kernel
theorem dX4_writeTurns_7 : decode cX4_writeTurns 7 = .ok (.iconst 0, 1) := by decide +kernel
theorem dX4_writeTurns_8 : decode cX4_writeTurns 8 = .ok (.istore_n 1, 1) := by decide +kernel
theorem dX4_writeTurns_9 : decode cX4_writeTurns 9 = .ok (.iload_n 1, 1) := by decide +kernel
theorem dX4_writeTurns_10 : decode cX4_writeTurns 10 = .ok (.aload_n 0, 1) := by decide +kernel
theorem dX4_writeTurns_11 : decode cX4_writeTurns 11 = .ok (.getfield 10, 3) := by decide +kernel
theorem dX4_writeTurns_14 : decode cX4_writeTurns 14 = .ok (.getfield 114, 3) := by decide +kernel
theorem dX4_writeTurns_17 : decode cX4_writeTurns 17 = .ok (.if_icmp .ge 52, 3) := by decide +kernel
theorem dX4_writeTurns_20 : decode cX4_writeTurns 20 = .ok (.iload_n 1, 1) := by decide +kernel
theorem dX4_writeTurns_21 : decode cX4_writeTurns 21 = .ok (.bipush 60, 2) := by decide +kernel
theorem dX4_writeTurns_23 : decode cX4_writeTurns 23 = .ok (.if_icmp .ge 46, 3) := by decide +kernel
theorem dX4_writeTurns_26 : decode cX4_writeTurns 26 = .ok (.aload_n 0, 1) := by decide +kernel
theorem dX4_writeTurns_27 : decode cX4_writeTurns 27 = .ok (.getfield 40, 3) := by decide +kernel
theorem dX4_writeTurns_30 : decode cX4_writeTurns 30 = .ok (.aload_n 0, 1) := by decide +kernel
theorem dX4_writeTurns_31 : decode cX4_writeTurns 31 = .ok (.getfield 10, 3) := by decide +kernel
theorem dX4_writeTurns_34 : decode cX4_writeTurns 34 = .ok (.iload_n 1, 1) := by decide +kernel
theorem dX4_writeTurns_35 : decode cX4_writeTurns 35 = .ok (.invokevirtual 258, 3) := by decide +kernel
theorem dX4_writeTurns_38 : decode cX4_writeTurns 38 = .ok (.aload_n 0, 1) := by decide +kernel
theorem dX4_writeTurns_39 : decode cX4_writeTurns 39 = .ok (.getfield 40, 3) := by decide +kernel
theorem dX4_writeTurns_42 : decode cX4_writeTurns 42 = .ok (.aload_n 0, 1) := by decide +kernel
theorem dX4_writeTurns_43 : decode cX4_writeTurns 43 = .ok (.getfield 10, 3) := by decide +kernel
theorem dX4_writeTurns_46 : decode cX4_writeTurns 46 = .ok (.getfield 262, 3) := by decide +kernel
theorem dX4_writeTurns_49 : decode cX4_writeTurns 49 = .ok (.iload_n 1, 1) := by decide +kernel
theorem dX4_writeTurns_50 : decode cX4_writeTurns 50 = .ok (.iaload, 1) := by decide +kernel
theorem dX4_writeTurns_51 : decode cX4_writeTurns 51 = .ok (.aload_n 0, 1) := by decide +kernel
theorem dX4_writeTurns_52 : decode cX4_writeTurns 52 = .ok (.getfield 10, 3) := by decide +kernel
theorem dX4_writeTurns_55 : decode cX4_writeTurns 55 = .ok (.getfield 265, 3) := by decide +kernel
theorem dX4_writeTurns_58 : decode cX4_writeTurns 58 = .ok (.iload_n 1, 1) := by decide +kernel
theorem dX4_writeTurns_59 : decode cX4_writeTurns 59 = .ok (.iaload, 1) := by decide +kernel
theorem dX4_writeTurns_60 : decode cX4_writeTurns 60 = .ok (.invokevirtual 268, 3) := by decide +kernel
theorem dX4_writeTurns_63 : decode cX4_writeTurns 63 = .ok (.iinc 1 1, 3) := by decide +kernel
theorem dX4_writeTurns_66 : decode cX4_writeTurns 66 = .ok (.goto (-57), 3) := by decide +kernel
theorem dX4_writeTurns_69 : decode cX4_writeTurns 69 = .ok (.aload_n 0, 1) := by decide +kernel
theorem dX4_writeTurns_70 : decode cX4_writeTurns 70 = .ok (.getfield 40, 3) := by decide +kernel
theorem dX4_writeTurns_73 : decode cX4_writeTurns 73 = .ok (.aload_n 0, 1) := by decide +kernel
theorem dX4_writeTurns_74 : decode cX4_writeTurns 74 = .ok (.getfield 10, 3) := by decide +kernel
theorem dX4_writeTurns_77 : decode cX4_writeTurns 77 = .ok (.aload_n 0, 1) := by decide +kernel
theorem dX4_writeTurns_78 : decode cX4_writeTurns 78 = .ok (.getfield 10, 3) := by decide +kernel
theorem dX4_writeTurns_81 : decode cX4_writeTurns 81 = .ok (.getfield 114, 3) := by decide +kernel
theorem dX4_writeTurns_84 : decode cX4_writeTurns 84 = .ok (.invokevirtual 258, 3) := by decide +kernel
theorem dX4_writeTurns_87 : decode cX4_writeTurns 87 = .ok (.aload_n 0, 1) := by decide +kernel
theorem dX4_writeTurns_88 : decode cX4_writeTurns 88 = .ok (.getfield 40, 3) := by decide +kernel
theorem dX4_writeTurns_91 : decode cX4_writeTurns 91 = .ok (.getfield 257, 3) := by decide +kernel
theorem dX4_writeTurns_94 : decode cX4_writeTurns 94 = .ok (.ireturn, 1) := by decide +kernel
theorem dX4_output_0 : decode cX4_output 0 = .ok (.iload_n 1, 1) := by decide +kernel
theorem dX4_output_1 : decode cX4_output 1 = .ok (.ifCond .lt 38, 3) := by decide +kernel
theorem dX4_output_4 : decode cX4_output 4 = .ok (.iload_n 1, 1) := by decide +kernel
theorem dX4_output_5 : decode cX4_output 5 = .ok (.aload_n 0, 1) := by decide +kernel
theorem dX4_output_6 : decode cX4_output 6 = .ok (.getfield 40, 3) := by decide +kernel
theorem dX4_output_9 : decode cX4_output 9 = .ok (.getfield 257, 3) := by decide +kernel
theorem dX4_output_12 : decode cX4_output 12 = .ok (.if_icmp .ge 27, 3) := by decide +kernel
theorem dX4_output_15 : decode cX4_output 15 = .ok (.iload_n 1, 1) := by decide +kernel
theorem dX4_output_16 : decode cX4_output 16 = .ok (.aload_n 0, 1) := by decide +kernel
theorem dX4_output_17 : decode cX4_output 17 = .ok (.getfield 40, 3) := by decide +kernel
theorem dX4_output_20 : decode cX4_output 20 = .ok (.getfield 272, 3) := by decide +kernel
theorem dX4_output_23 : decode cX4_output 23 = .ok (.arraylength, 1) := by decide +kernel
theorem dX4_output_24 : decode cX4_output 24 = .ok (.if_icmp .ge 15, 3) := by decide +kernel
theorem dX4_output_27 : decode cX4_output 27 = .ok (.aload_n 0, 1) := by decide +kernel
theorem dX4_output_28 : decode cX4_output 28 = .ok (.getfield 40, 3) := by decide +kernel
theorem dX4_output_31 : decode cX4_output 31 = .ok (.getfield 272, 3) := by decide +kernel
theorem dX4_output_34 : decode cX4_output 34 = .ok (.iload_n 1, 1) := by decide +kernel
theorem dX4_output_35 : decode cX4_output 35 = .ok (.baload, 1) := by decide +kernel
theorem dX4_output_36 : decode cX4_output 36 = .ok (.goto 4, 3) := by decide +kernel
theorem dX4_output_39 : decode cX4_output 39 = .ok (.iconst (-1), 1) := by decide +kernel
theorem dX4_output_40 : decode cX4_output 40 = .ok (.ireturn, 1) := by decide +kernel
theorem dX4_isPlayer_0 : decode cX4_isPlayer 0 = .ok (.iload_n 0, 1) := by decide +kernel
theorem dX4_isPlayer_1 : decode cX4_isPlayer 1 = .ok (.ifCond .eq 8, 3) := by decide +kernel
theorem dX4_isPlayer_4 : decode cX4_isPlayer 4 = .ok (.iload_n 0, 1) := by decide +kernel
theorem dX4_isPlayer_5 : decode cX4_isPlayer 5 = .ok (.iconst 1, 1) := by decide +kernel
theorem dX4_isPlayer_6 : decode cX4_isPlayer 6 = .ok (.if_icmp .ne 7, 3) := by decide +kernel
theorem dX4_isPlayer_9 : decode cX4_isPlayer 9 = .ok (.iconst 1, 1) := by decide +kernel
theorem dX4_isPlayer_10 : decode cX4_isPlayer 10 = .ok (.goto 4, 3) := by decide +kernel
theorem dX4_isPlayer_13 : decode cX4_isPlayer 13 = .ok (.iconst 0, 1) := by decide +kernel
theorem dX4_isPlayer_14 : decode cX4_isPlayer 14 = .ok (.ireturn, 1) := by decide +kernel
theorem dX4_isPlace_0 : decode cX4_isPlace 0 = .ok (.iload_n 0, 1) := by decide +kernel
theorem dX4_isPlace_1 : decode cX4_isPlace 1 = .ok (.bipush (-20), 2) := by decide +kernel
theorem dX4_isPlace_3 : decode cX4_isPlace 3 = .ok (.if_icmp .lt 13, 3) := by decide +kernel
theorem dX4_isPlace_6 : decode cX4_isPlace 6 = .ok (.iload_n 0, 1) := by decide +kernel
theorem dX4_isPlace_7 : decode cX4_isPlace 7 = .ok (.bipush 20, 2) := by decide +kernel
theorem dX4_isPlace_9 : decode cX4_isPlace 9 = .ok (.if_icmp .gt 7, 3) := by decide +kernel
theorem dX4_isPlace_12 : decode cX4_isPlace 12 = .ok (.iconst 1, 1) := by decide +kernel
theorem dX4_isPlace_13 : decode cX4_isPlace 13 = .ok (.goto 4, 3) := by decide +kernel
theorem dX4_isPlace_16 : decode cX4_isPlace 16 = .ok (.iconst 0, 1) := by decide +kernel
theorem dX4_isPlace_17 : decode cX4_isPlace 17 = .ok (.ireturn, 1) := by decide +kernel
theorem dX4_isInterval_0 : decode cX4_isInterval 0 = .ok (.iload_n 0, 1) := by decide +kernel
theorem dX4_isInterval_1 : decode cX4_isInterval 1 = .ok (.invokestatic 216, 3) := by decide +kernel
theorem dX4_isInterval_4 : decode cX4_isInterval 4 = .ok (.ifCond .eq 19, 3) := by decide +kernel
theorem dX4_isInterval_7 : decode cX4_isInterval 7 = .ok (.iload_n 1, 1) := by decide +kernel
theorem dX4_isInterval_8 : decode cX4_isInterval 8 = .ok (.invokestatic 216, 3) := by decide +kernel
theorem dX4_isInterval_11 : decode cX4_isInterval 11 = .ok (.ifCond .eq 12, 3) := by decide +kernel
theorem dX4_isInterval_14 : decode cX4_isInterval 14 = .ok (.iload_n 0, 1) := by decide +kernel
theorem dX4_isInterval_15 : decode cX4_isInterval 15 = .ok (.iload_n 1, 1) := by decide +kernel
theorem dX4_isInterval_16 : decode cX4_isInterval 16 = .ok (.if_icmp .ge 7, 3) := by decide +kernel
theorem dX4_isInterval_19 : decode cX4_isInterval 19 = .ok (.iconst 1, 1) := by decide +kernel
theorem dX4_isInterval_20 : decode cX4_isInterval 20 = .ok (.goto 4, 3) := by decide +kernel
theorem dX4_isInterval_23 : decode cX4_isInterval 23 = .ok (.iconst 0, 1) := by decide +kernel
theorem dX4_isInterval_24 : decode cX4_isInterval 24 = .ok (.ireturn, 1) := by decide +kernel
theorem dX4_isLayable_0 : decode cX4_isLayable 0 = .ok (.iload_n 0, 1) := by decide +kernel
theorem dX4_isLayable_1 : decode cX4_isLayable 1 = .ok (.ifCond .eq 19, 3) := by decide +kernel
theorem dX4_isLayable_4 : decode cX4_isLayable 4 = .ok (.iload_n 0, 1) := by decide +kernel
theorem dX4_isLayable_5 : decode cX4_isLayable 5 = .ok (.bipush (-9), 2) := by decide +kernel
theorem dX4_isLayable_7 : decode cX4_isLayable 7 = .ok (.if_icmp .lt 13, 3) := by decide +kernel
theorem dX4_isLayable_10 : decode cX4_isLayable 10 = .ok (.iload_n 0, 1) := by decide +kernel
theorem dX4_isLayable_11 : decode cX4_isLayable 11 = .ok (.bipush 9, 2) := by decide +kernel
theorem dX4_isLayable_13 : decode cX4_isLayable 13 = .ok (.if_icmp .gt 7, 3) := by decide +kernel
theorem dX4_isLayable_16 : decode cX4_isLayable 16 = .ok (.iconst 1, 1) := by decide +kernel
theorem dX4_isLayable_17 : decode cX4_isLayable 17 = .ok (.goto 4, 3) := by decide +kernel
theorem dX4_isLayable_20 : decode cX4_isLayable 20 = .ok (.iconst 0, 1) := by decide +kernel
theorem dX4_isLayable_21 : decode cX4_isLayable 21 = .ok (.ireturn, 1) := by decide +kernel
theorem dX4_buildRows_0 : decode cX4_buildRows 0 = .ok (.aload_n 0, 1) := by decide +kernel
theorem dX4_buildRows_1 : decode cX4_buildRows 1 = .ok (.getfield 26, 3) := by decide +kernel
theorem dX4_buildRows_4 : decode cX4_buildRows 4 = .ok (.aload_n 1, 1) := by decide +kernel
theorem dX4_buildRows_5 : decode cX4_buildRows 5 = .ok (.invokevirtual 279, 3) := by decide +kernel
theorem dX4_buildRows_8 : decode cX4_buildRows 8 = .ok (.aload_n 0, 1) := by decide +kernel
theorem dX4_buildRows_9 : decode cX4_buildRows 9 = .ok (.getfield 26, 3) := by decide +kernel
theorem dX4_buildRows_12 : decode cX4_buildRows 12 = .ok (.invokevirtual 282, 3) := by decide +kernel
theorem dX4_buildRows_15 : decode cX4_buildRows 15 = .ok (.return_, 1) := by decide +kernel
theorem dX4_makeClaim_0 : decode cX4_makeClaim 0 = .ok (.aload_n 0, 1) := by decide +kernel
theorem dX4_makeClaim_1 : decode cX4_makeClaim 1 = .ok (.getfield 10, 3) := by decide +kernel
theorem dX4_makeClaim_4 : decode cX4_makeClaim 4 = .ok (.iload_n 1, 1) := by decide +kernel
theorem dX4_makeClaim_5 : decode cX4_makeClaim 5 = .ok (.iload_n 2, 1) := by decide +kernel
theorem dX4_makeClaim_6 : decode cX4_makeClaim 6 = .ok (.iload 5, 2) := by decide +kernel
theorem dX4_makeClaim_8 : decode cX4_makeClaim 8 = .ok (.invokevirtual 285, 3) := by decide +kernel
theorem dX4_makeClaim_11 : decode cX4_makeClaim 11 = .ok (.istore 6, 2) := by decide +kernel
theorem dX4_makeClaim_13 : decode cX4_makeClaim 13 = .ok (.iload 6, 2) := by decide +kernel
theorem dX4_makeClaim_15 : decode cX4_makeClaim 15 = .ok (.ifCond .ne 17, 3) := by decide +kernel
theorem dX4_makeClaim_18 : decode cX4_makeClaim 18 = .ok (.aload_n 0, 1) := by decide +kernel
theorem dX4_makeClaim_19 : decode cX4_makeClaim 19 = .ok (.getfield 10, 3) := by decide +kernel
theorem dX4_makeClaim_22 : decode cX4_makeClaim 22 = .ok (.iload_n 1, 1) := by decide +kernel
theorem dX4_makeClaim_23 : decode cX4_makeClaim 23 = .ok (.iload_n 2, 1) := by decide +kernel
theorem dX4_makeClaim_24 : decode cX4_makeClaim 24 = .ok (.iload_n 3, 1) := by decide +kernel
theorem dX4_makeClaim_25 : decode cX4_makeClaim 25 = .ok (.iload 4, 2) := by decide +kernel
theorem dX4_makeClaim_27 : decode cX4_makeClaim 27 = .ok (.iload 5, 2) := by decide +kernel
theorem dX4_makeClaim_29 : decode cX4_makeClaim 29 = .ok (.invokevirtual 288, 3) := by decide +kernel
theorem dX4_makeClaim_32 : decode cX4_makeClaim 32 = .ok (.aload_n 0, 1) := by decide +kernel
theorem dX4_makeClaim_33 : decode cX4_makeClaim 33 = .ok (.iload 6, 2) := by decide +kernel
theorem dX4_makeClaim_35 : decode cX4_makeClaim 35 = .ok (.invokevirtual 292, 3) := by decide +kernel
theorem dX4_makeClaim_38 : decode cX4_makeClaim 38 = .ok (.ireturn, 1) := by decide +kernel
theorem dX4_layTerm_0 : decode cX4_layTerm 0 = .ok (.aload_n 0, 1) := by decide +kernel
theorem dX4_layTerm_1 : decode cX4_layTerm 1 = .ok (.getfield 10, 3) := by decide +kernel
theorem dX4_layTerm_4 : decode cX4_layTerm 4 = .ok (.iload_n 1, 1) := by decide +kernel
theorem dX4_layTerm_5 : decode cX4_layTerm 5 = .ok (.iload_n 2, 1) := by decide +kernel
theorem dX4_layTerm_6 : decode cX4_layTerm 6 = .ok (.invokevirtual 203, 3) := by decide +kernel
theorem dX4_layTerm_9 : decode cX4_layTerm 9 = .ok (.istore_n 3, 1) := by decide +kernel
theorem dX4_layTerm_10 : decode cX4_layTerm 10 = .ok (.iload_n 3, 1) := by decide +kernel
theorem dX4_layTerm_11 : decode cX4_layTerm 11 = .ok (.ifCond .ne 16, 3) := by decide +kernel
theorem dX4_layTerm_14 : decode cX4_layTerm 14 = .ok (.aload_n 0, 1) := by decide +kernel
theorem dX4_layTerm_15 : decode cX4_layTerm 15 = .ok (.getfield 10, 3) := by decide +kernel
theorem dX4_layTerm_18 : decode cX4_layTerm 18 = .ok (.iload_n 1, 1) := by decide +kernel
theorem dX4_layTerm_19 : decode cX4_layTerm 19 = .ok (.iload_n 2, 1) := by decide +kernel
theorem dX4_layTerm_20 : decode cX4_layTerm 20 = .ok (.aload_n 0, 1) := by decide +kernel
theorem dX4_layTerm_21 : decode cX4_layTerm 21 = .ok (.getfield 26, 3) := by decide +kernel
theorem dX4_layTerm_24 : decode cX4_layTerm 24 = .ok (.invokevirtual 209, 3) := by decide +kernel
theorem dX4_layTerm_27 : decode cX4_layTerm 27 = .ok (.aload_n 0, 1) := by decide +kernel
theorem dX4_layTerm_28 : decode cX4_layTerm 28 = .ok (.iload_n 3, 1) := by decide +kernel
theorem dX4_layTerm_29 : decode cX4_layTerm 29 = .ok (.invokevirtual 292, 3) := by decide +kernel
theorem dX4_layTerm_32 : decode cX4_layTerm 32 = .ok (.ireturn, 1) := by decide +kernel
theorem dX4_passTurn_0 : decode cX4_passTurn 0 = .ok (.aload_n 0, 1) := by decide +kernel
theorem dX4_passTurn_1 : decode cX4_passTurn 1 = .ok (.getfield 10, 3) := by decide +kernel
theorem dX4_passTurn_4 : decode cX4_passTurn 4 = .ok (.getfield 117, 3) := by decide +kernel
theorem dX4_passTurn_7 : decode cX4_passTurn 7 = .ok (.ifCond .eq 7, 3) := by decide +kernel
theorem dX4_passTurn_10 : decode cX4_passTurn 10 = .ok (.iconst 1, 1) := by decide +kernel
theorem dX4_passTurn_11 : decode cX4_passTurn 11 = .ok (.goto 4, 3) := by decide +kernel
theorem dX4_passTurn_14 : decode cX4_passTurn 14 = .ok (.iconst 0, 1) := by decide +kernel
theorem dX4_passTurn_15 : decode cX4_passTurn 15 = .ok (.istore_n 1, 1) := by decide +kernel
theorem dX4_passTurn_16 : decode cX4_passTurn 16 = .ok (.iload_n 1, 1) := by decide +kernel
theorem dX4_passTurn_17 : decode cX4_passTurn 17 = .ok (.ifCond .ne 16, 3) := by decide +kernel
theorem dX4_passTurn_20 : decode cX4_passTurn 20 = .ok (.aload_n 0, 1) := by decide +kernel
theorem dX4_passTurn_21 : decode cX4_passTurn 21 = .ok (.getfield 10, 3) := by decide +kernel
theorem dX4_passTurn_24 : decode cX4_passTurn 24 = .ok (.iconst 0, 1) := by decide +kernel
theorem dX4_passTurn_25 : decode cX4_passTurn 25 = .ok (.iconst 0, 1) := by decide +kernel
theorem dX4_passTurn_26 : decode cX4_passTurn 26 = .ok (.aload_n 0, 1) := by decide +kernel
theorem dX4_passTurn_27 : decode cX4_passTurn 27 = .ok (.getfield 26, 3) := by decide +kernel
theorem dX4_passTurn_30 : decode cX4_passTurn 30 = .ok (.invokevirtual 209, 3) := by decide +kernel
theorem dX4_passTurn_33 : decode cX4_passTurn 33 = .ok (.aload_n 0, 1) := by decide +kernel
theorem dX4_passTurn_34 : decode cX4_passTurn 34 = .ok (.iload_n 1, 1) := by decide +kernel
theorem dX4_passTurn_35 : decode cX4_passTurn 35 = .ok (.invokevirtual 292, 3) := by decide +kernel
theorem dX4_passTurn_38 : decode cX4_passTurn 38 = .ok (.ireturn, 1) := by decide +kernel
theorem dX4_settle_0 : decode cX4_settle 0 = .ok (.iload_n 1, 1) := by decide +kernel
theorem dX4_settle_1 : decode cX4_settle 1 = .ok (.ifCond .lt 19, 3) := by decide +kernel
theorem dX4_settle_4 : decode cX4_settle 4 = .ok (.iload_n 1, 1) := by decide +kernel
theorem dX4_settle_5 : decode cX4_settle 5 = .ok (.bipush 8, 2) := by decide +kernel
theorem dX4_settle_7 : decode cX4_settle 7 = .ok (.if_icmp .gt 13, 3) := by decide +kernel
theorem dX4_settle_10 : decode cX4_settle 10 = .ok (.aload_n 0, 1) := by decide +kernel
theorem dX4_settle_11 : decode cX4_settle 11 = .ok (.getfield 44, 3) := by decide +kernel
theorem dX4_settle_14 : decode cX4_settle 14 = .ok (.iload_n 1, 1) := by decide +kernel
theorem dX4_settle_15 : decode cX4_settle 15 = .ok (.dup2, 1) := by decide +kernel
theorem dX4_settle_16 : decode cX4_settle 16 = .ok (.iaload, 1) := by decide +kernel
theorem dX4_settle_17 : decode cX4_settle 17 = .ok (.iconst 1, 1) := by decide +kernel
theorem dX4_settle_18 : decode cX4_settle 18 = .ok (.iadd, 1) := by decide +kernel
theorem dX4_settle_19 : decode cX4_settle 19 = .ok (.iastore, 1) := by decide +kernel
theorem dX4_settle_20 : decode cX4_settle 20 = .ok (.iload_n 1, 1) := by decide +kernel
theorem dX4_settle_21 : decode cX4_settle 21 = .ok (.ifCond .ne 22, 3) := by decide +kernel
theorem dX4_settle_24 : decode cX4_settle 24 = .ok (.aload_n 0, 1) := by decide +kernel
theorem dX4_settle_25 : decode cX4_settle 25 = .ok (.getfield 81, 3) := by decide +kernel
theorem dX4_settle_28 : decode cX4_settle 28 = .ok (.bipush 12, 2) := by decide +kernel
theorem dX4_settle_30 : decode cX4_settle 30 = .ok (.if_icmp .ge 13, 3) := by decide +kernel
theorem dX4_settle_33 : decode cX4_settle 33 = .ok (.aload_n 0, 1) := by decide +kernel
theorem dX4_settle_34 : decode cX4_settle 34 = .ok (.dup, 1) := by decide +kernel
theorem dX4_settle_35 : decode cX4_settle 35 = .ok (.getfield 81, 3) := by decide +kernel
theorem dX4_settle_38 : decode cX4_settle 38 = .ok (.iconst 1, 1) := by decide +kernel
theorem dX4_settle_39 : decode cX4_settle 39 = .ok (.iadd, 1) := by decide +kernel
theorem dX4_settle_40 : decode cX4_settle 40 = .ok (.putfield 81, 3) := by decide +kernel
theorem dX4_settle_43 : decode cX4_settle 43 = .ok (.iload_n 1, 1) := by decide +kernel
theorem dX4_settle_44 : decode cX4_settle 44 = .ok (.ireturn, 1) := by decide +kernel
theorem dX4_leadBehind_0 : decode cX4_leadBehind 0 = .ok (.aload_n 0, 1) := by decide +kernel
theorem dX4_leadBehind_1 : decode cX4_leadBehind 1 = .ok (.getfield 10, 3) := by decide +kernel
theorem dX4_leadBehind_4 : decode cX4_leadBehind 4 = .ok (.iload_n 2, 1) := by decide +kernel
theorem dX4_leadBehind_5 : decode cX4_leadBehind 5 = .ok (.invokevirtual 137, 3) := by decide +kernel
theorem dX4_leadBehind_8 : decode cX4_leadBehind 8 = .ok (.ifCond .ne 5, 3) := by decide +kernel
theorem dX4_leadBehind_11 : decode cX4_leadBehind 11 = .ok (.iconst 0, 1) := by decide +kernel
theorem dX4_leadBehind_12 : decode cX4_leadBehind 12 = .ok (.ireturn, 1) := by decide +kernel
theorem dX4_leadBehind_13 : decode cX4_leadBehind 13 = .ok (.aload_n 0, 1) := by decide +kernel
theorem dX4_leadBehind_14 : decode cX4_leadBehind 14 = .ok (.getfield 10, 3) := by decide +kernel
theorem dX4_leadBehind_17 : decode cX4_leadBehind 17 = .ok (.invokevirtual 121, 3) := by decide +kernel
theorem dX4_leadBehind_20 : decode cX4_leadBehind 20 = .ok (.istore_n 3, 1) := by decide +kernel
theorem dX4_leadBehind_21 : decode cX4_leadBehind 21 = .ok (.aload_n 0, 1) := by decide +kernel
theorem dX4_leadBehind_22 : decode cX4_leadBehind 22 = .ok (.getfield 16, 3) := by decide +kernel
theorem dX4_leadBehind_25 : decode cX4_leadBehind 25 = .ok (.getfield 147, 3) := by decide +kernel
theorem dX4_leadBehind_28 : decode cX4_leadBehind 28 = .ok (.iload_n 2, 1) := by decide +kernel
theorem dX4_leadBehind_29 : decode cX4_leadBehind 29 = .ok (.aload_n 0, 1) := by decide +kernel
theorem dX4_leadBehind_30 : decode cX4_leadBehind 30 = .ok (.getfield 10, 3) := by decide +kernel
theorem dX4_leadBehind_33 : decode cX4_leadBehind 33 = .ok (.getfield 147, 3) := by decide +kernel
theorem dX4_leadBehind_36 : decode cX4_leadBehind 36 = .ok (.iload_n 2, 1) := by decide +kernel
theorem dX4_leadBehind_37 : decode cX4_leadBehind 37 = .ok (.iaload, 1) := by decide +kernel
theorem dX4_leadBehind_38 : decode cX4_leadBehind 38 = .ok (.iload_n 1, 1) := by decide +kernel
theorem dX4_leadBehind_39 : decode cX4_leadBehind 39 = .ok (.iadd, 1) := by decide +kernel
theorem dX4_leadBehind_40 : decode cX4_leadBehind 40 = .ok (.iastore, 1) := by decide +kernel
theorem dX4_leadBehind_41 : decode cX4_leadBehind 41 = .ok (.aload_n 0, 1) := by decide +kernel
theorem dX4_leadBehind_42 : decode cX4_leadBehind 42 = .ok (.aload_n 0, 1) := by decide +kernel
theorem dX4_leadBehind_43 : decode cX4_leadBehind 43 = .ok (.getfield 16, 3) := by decide +kernel
theorem dX4_leadBehind_46 : decode cX4_leadBehind 46 = .ok (.getfield 147, 3) := by decide +kernel
theorem dX4_leadBehind_49 : decode cX4_leadBehind 49 = .ok (.invokevirtual 162, 3) := by decide +kernel
theorem dX4_leadBehind_52 : decode cX4_leadBehind 52 = .ok (.aload_n 0, 1) := by decide +kernel
theorem dX4_leadBehind_53 : decode cX4_leadBehind 53 = .ok (.getfield 16, 3) := by decide +kernel
theorem dX4_leadBehind_56 : decode cX4_leadBehind 56 = .ok (.aload_n 0, 1) := by decide +kernel
theorem dX4_leadBehind_57 : decode cX4_leadBehind 57 = .ok (.getfield 16, 3) := by decide +kernel
theorem dX4_leadBehind_60 : decode cX4_leadBehind 60 = .ok (.aload_n 0, 1) := by decide +kernel
theorem dX4_leadBehind_61 : decode cX4_leadBehind 61 = .ok (.getfield 26, 3) := by decide +kernel
theorem dX4_leadBehind_64 : decode cX4_leadBehind 64 = .ok (.invokevirtual 295, 3) := by decide +kernel
theorem dX4_leadBehind_67 : decode cX4_leadBehind 67 = .ok (.ifCond .eq 7, 3) := by decide +kernel
theorem dX4_leadBehind_70 : decode cX4_leadBehind 70 = .ok (.iload_n 3, 1) := by decide +kernel
theorem dX4_leadBehind_71 : decode cX4_leadBehind 71 = .ok (.goto 4, 3) := by decide +kernel
theorem dX4_leadBehind_74 : decode cX4_leadBehind 74 = .ok (.iconst (-1), 1) := by decide +kernel
theorem dX4_leadBehind_75 : decode cX4_leadBehind 75 = .ok (.putfield 134, 3) := by decide +kernel
theorem dX4_leadBehind_78 : decode cX4_leadBehind 78 = .ok (.aload_n 0, 1) := by decide +kernel
theorem dX4_leadBehind_79 : decode cX4_leadBehind 79 = .ok (.getfield 16, 3) := by decide +kernel
theorem dX4_leadBehind_82 : decode cX4_leadBehind 82 = .ok (.iload_n 3, 1) := by decide +kernel
theorem dX4_leadBehind_83 : decode cX4_leadBehind 83 = .ok (.aload_n 0, 1) := by decide +kernel
theorem dX4_leadBehind_84 : decode cX4_leadBehind 84 = .ok (.getfield 26, 3) := by decide +kernel
theorem dX4_leadBehind_87 : decode cX4_leadBehind 87 = .ok (.invokevirtual 174, 3) := by decide +kernel
theorem dX4_leadBehind_90 : decode cX4_leadBehind 90 = .ok (.aload_n 0, 1) := by decide +kernel
theorem dX4_leadBehind_91 : decode cX4_leadBehind 91 = .ok (.getfield 16, 3) := by decide +kernel
theorem dX4_leadBehind_94 : decode cX4_leadBehind 94 = .ok (.iconst 1, 1) := by decide +kernel
theorem dX4_leadBehind_95 : decode cX4_leadBehind 95 = .ok (.iload_n 3, 1) := by decide +kernel
theorem dX4_leadBehind_96 : decode cX4_leadBehind 96 = .ok (.isub, 1) := by decide +kernel
theorem dX4_leadBehind_97 : decode cX4_leadBehind 97 = .ok (.aload_n 0, 1) := by decide +kernel
theorem dX4_leadBehind_98 : decode cX4_leadBehind 98 = .ok (.getfield 26, 3) := by decide +kernel
theorem dX4_leadBehind_101 : decode cX4_leadBehind 101 = .ok (.invokevirtual 174, 3) := by decide +kernel
theorem dX4_leadBehind_104 : decode cX4_leadBehind 104 = .ok (.isub, 1) := by decide +kernel
theorem dX4_leadBehind_105 : decode cX4_leadBehind 105 = .ok (.istore 4, 2) := by decide +kernel
theorem dX4_leadBehind_107 : decode cX4_leadBehind 107 = .ok (.aload_n 0, 1) := by decide +kernel
theorem dX4_leadBehind_108 : decode cX4_leadBehind 108 = .ok (.getfield 16, 3) := by decide +kernel
theorem dX4_leadBehind_111 : decode cX4_leadBehind 111 = .ok (.getfield 147, 3) := by decide +kernel
theorem dX4_leadBehind_114 : decode cX4_leadBehind 114 = .ok (.iload_n 2, 1) := by decide +kernel
theorem dX4_leadBehind_115 : decode cX4_leadBehind 115 = .ok (.aload_n 0, 1) := by decide +kernel
theorem dX4_leadBehind_116 : decode cX4_leadBehind 116 = .ok (.getfield 10, 3) := by decide +kernel
theorem dX4_leadBehind_119 : decode cX4_leadBehind 119 = .ok (.getfield 147, 3) := by decide +kernel
theorem dX4_leadBehind_122 : decode cX4_leadBehind 122 = .ok (.iload_n 2, 1) := by decide +kernel
theorem dX4_leadBehind_123 : decode cX4_leadBehind 123 = .ok (.iaload, 1) := by decide +kernel
theorem dX4_leadBehind_124 : decode cX4_leadBehind 124 = .ok (.iastore, 1) := by decide +kernel
theorem dX4_leadBehind_125 : decode cX4_leadBehind 125 = .ok (.iload 4, 2) := by decide +kernel
theorem dX4_leadBehind_127 : decode cX4_leadBehind 127 = .ok (.ireturn, 1) := by decide +kernel
theorem dX4_shiftTo_0 : decode cX4_shiftTo 0 = .ok (.iconst 0, 1) := by decide +kernel
theorem dX4_shiftTo_1 : decode cX4_shiftTo 1 = .ok (.istore_n 2, 1) := by decide +kernel
theorem dX4_shiftTo_2 : decode cX4_shiftTo 2 = .ok (.iload_n 2, 1) := by decide +kernel
theorem dX4_shiftTo_3 : decode cX4_shiftTo 3 = .ok (.iconst 5, 1) := by decide +kernel
theorem dX4_shiftTo_4 : decode cX4_shiftTo 4 = .ok (.if_icmp .ge 25, 3) := by decide +kernel
theorem dX4_shiftTo_7 : decode cX4_shiftTo 7 = .ok (.aload_n 0, 1) := by decide +kernel
theorem dX4_shiftTo_8 : decode cX4_shiftTo 8 = .ok (.getfield 48, 3) := by decide +kernel
theorem dX4_shiftTo_11 : decode cX4_shiftTo 11 = .ok (.iload_n 2, 1) := by decide +kernel
theorem dX4_shiftTo_12 : decode cX4_shiftTo 12 = .ok (.aload_n 0, 1) := by decide +kernel
theorem dX4_shiftTo_13 : decode cX4_shiftTo 13 = .ok (.getfield 10, 3) := by decide +kernel
theorem dX4_shiftTo_16 : decode cX4_shiftTo 16 = .ok (.getfield 147, 3) := by decide +kernel
theorem dX4_shiftTo_19 : decode cX4_shiftTo 19 = .ok (.iload_n 2, 1) := by decide +kernel
theorem dX4_shiftTo_20 : decode cX4_shiftTo 20 = .ok (.iaload, 1) := by decide +kernel
theorem dX4_shiftTo_21 : decode cX4_shiftTo 21 = .ok (.i2l, 1) := by decide +kernel
theorem dX4_shiftTo_22 : decode cX4_shiftTo 22 = .ok (.lastore, 1) := by decide +kernel
theorem dX4_shiftTo_23 : decode cX4_shiftTo 23 = .ok (.iinc 2 1, 3) := by decide +kernel
theorem dX4_shiftTo_26 : decode cX4_shiftTo 26 = .ok (.goto (-24), 3) := by decide +kernel
theorem dX4_shiftTo_29 : decode cX4_shiftTo 29 = .ok (.iconst 0, 1) := by decide +kernel
theorem dX4_shiftTo_30 : decode cX4_shiftTo 30 = .ok (.istore_n 2, 1) := by decide +kernel
theorem dX4_shiftTo_31 : decode cX4_shiftTo 31 = .ok (.iload_n 2, 1) := by decide +kernel
theorem dX4_shiftTo_32 : decode cX4_shiftTo 32 = .ok (.iconst 5, 1) := by decide +kernel
theorem dX4_shiftTo_33 : decode cX4_shiftTo 33 = .ok (.if_icmp .ge 42, 3) := by decide +kernel
theorem dX4_shiftTo_36 : decode cX4_shiftTo 36 = .ok (.iconst 3, 1) := by decide +kernel
theorem dX4_shiftTo_37 : decode cX4_shiftTo 37 = .ok (.istore_n 3, 1) := by decide +kernel
theorem dX4_shiftTo_38 : decode cX4_shiftTo 38 = .ok (.iload_n 3, 1) := by decide +kernel
theorem dX4_shiftTo_39 : decode cX4_shiftTo 39 = .ok (.iload_n 2, 1) := by decide +kernel
theorem dX4_shiftTo_40 : decode cX4_shiftTo 40 = .ok (.if_icmp .lt 29, 3) := by decide +kernel
theorem dX4_shiftTo_43 : decode cX4_shiftTo 43 = .ok (.aload_n 0, 1) := by decide +kernel
theorem dX4_shiftTo_44 : decode cX4_shiftTo 44 = .ok (.getfield 48, 3) := by decide +kernel
theorem dX4_shiftTo_47 : decode cX4_shiftTo 47 = .ok (.iload_n 3, 1) := by decide +kernel
theorem dX4_shiftTo_48 : decode cX4_shiftTo 48 = .ok (.dup2, 1) := by decide +kernel
theorem dX4_shiftTo_49 : decode cX4_shiftTo 49 = .ok (.laload, 1) := by decide +kernel
theorem dX4_shiftTo_50 : decode cX4_shiftTo 50 = .ok (.iload_n 1, 1) := by decide +kernel
theorem dX4_shiftTo_51 : decode cX4_shiftTo 51 = .ok (.i2l, 1) := by decide +kernel
theorem dX4_shiftTo_52 : decode cX4_shiftTo 52 = .ok (.aload_n 0, 1) := by decide +kernel
theorem dX4_shiftTo_53 : decode cX4_shiftTo 53 = .ok (.getfield 48, 3) := by decide +kernel
theorem dX4_shiftTo_56 : decode cX4_shiftTo 56 = .ok (.iload_n 3, 1) := by decide +kernel
theorem dX4_shiftTo_57 : decode cX4_shiftTo 57 = .ok (.iconst 1, 1) := by decide +kernel
theorem dX4_shiftTo_58 : decode cX4_shiftTo 58 = .ok (.iadd, 1) := by decide +kernel
theorem dX4_shiftTo_59 : decode cX4_shiftTo 59 = .ok (.laload, 1) := by decide +kernel
theorem dX4_shiftTo_60 : decode cX4_shiftTo 60 = .ok (.lmul, 1) := by decide +kernel
theorem dX4_shiftTo_61 : decode cX4_shiftTo 61 = .ok (.ladd, 1) := by decide +kernel
theorem dX4_shiftTo_62 : decode cX4_shiftTo 62 = .ok (.lastore, 1) := by decide +kernel
theorem dX4_shiftTo_63 : decode cX4_shiftTo 63 = .ok (.iinc 3 (-1), 3) := by decide +kernel
theorem dX4_shiftTo_66 : decode cX4_shiftTo 66 = .ok (.goto (-28), 3) := by decide +kernel
theorem dX4_shiftTo_69 : decode cX4_shiftTo 69 = .ok (.iinc 2 1, 3) := by decide +kernel
theorem dX4_shiftTo_72 : decode cX4_shiftTo 72 = .ok (.goto (-41), 3) := by decide +kernel
theorem dX4_shiftTo_75 : decode cX4_shiftTo 75 = .ok (.return_, 1) := by decide +kernel
theorem dX4_derivativeChanges_0 : decode cX4_derivativeChanges 0 = .ok (.aload_n 0, 1) := by decide +kernel
theorem dX4_derivativeChanges_1 : decode cX4_derivativeChanges 1 = .ok (.iload_n 1, 1) := by decide +kernel
theorem dX4_derivativeChanges_2 : decode cX4_derivativeChanges 2 = .ok (.invokevirtual 229, 3) := by decide +kernel
theorem dX4_derivativeChanges_5 : decode cX4_derivativeChanges 5 = .ok (.iconst 0, 1) := by decide +kernel
theorem dX4_derivativeChanges_6 : decode cX4_derivativeChanges 6 = .ok (.istore_n 2, 1) := by decide +kernel
theorem dX4_derivativeChanges_7 : decode cX4_derivativeChanges 7 = .ok (.iconst 0, 1) := by decide +kernel
theorem dX4_derivativeChanges_8 : decode cX4_derivativeChanges 8 = .ok (.istore_n 3, 1) := by decide +kernel
theorem dX4_derivativeChanges_9 : decode cX4_derivativeChanges 9 = .ok (.iconst 0, 1) := by decide +kernel
theorem dX4_derivativeChanges_10 : decode cX4_derivativeChanges 10 = .ok (.istore 4, 2) := by decide +kernel
theorem dX4_derivativeChanges_12 : decode cX4_derivativeChanges 12 = .ok (.iload 4, 2) := by decide +kernel
theorem dX4_derivativeChanges_14 : decode cX4_derivativeChanges 14 = .ok (.iconst 5, 1) := by decide +kernel
theorem dX4_derivativeChanges_15 : decode cX4_derivativeChanges 15 = .ok (.if_icmp .ge 40, 3) := by decide +kernel
theorem dX4_derivativeChanges_18 : decode cX4_derivativeChanges 18 = .ok (.aload_n 0, 1) := by decide +kernel
theorem dX4_derivativeChanges_19 : decode cX4_derivativeChanges 19 = .ok (.getfield 48, 3) := by decide +kernel
theorem dX4_derivativeChanges_22 : decode cX4_derivativeChanges 22 = .ok (.iload 4, 2) := by decide +kernel
theorem dX4_derivativeChanges_24 : decode cX4_derivativeChanges 24 = .ok (.laload, 1) := by decide +kernel
theorem dX4_derivativeChanges_25 : decode cX4_derivativeChanges 25 = .ok (.lconst 0, 1) := by decide +kernel
theorem dX4_derivativeChanges_26 : decode cX4_derivativeChanges 26 = .ok (.invokestatic 299, 3) := by decide +kernel
theorem dX4_derivativeChanges_29 : decode cX4_derivativeChanges 29 = .ok (.istore 5, 2) := by decide +kernel
theorem dX4_derivativeChanges_31 : decode cX4_derivativeChanges 31 = .ok (.iload 5, 2) := by decide +kernel
theorem dX4_derivativeChanges_33 : decode cX4_derivativeChanges 33 = .ok (.ifCond .eq 16, 3) := by decide +kernel
theorem dX4_derivativeChanges_36 : decode cX4_derivativeChanges 36 = .ok (.iload_n 3, 1) := by decide +kernel
theorem dX4_derivativeChanges_37 : decode cX4_derivativeChanges 37 = .ok (.iload 5, 2) := by decide +kernel
theorem dX4_derivativeChanges_39 : decode cX4_derivativeChanges 39 = .ok (.ineg, 1) := by decide +kernel
theorem dX4_derivativeChanges_40 : decode cX4_derivativeChanges 40 = .ok (.if_icmp .ne 6, 3) := by decide +kernel
theorem dX4_derivativeChanges_43 : decode cX4_derivativeChanges 43 = .ok (.iinc 2 1, 3) := by decide +kernel
theorem dX4_derivativeChanges_46 : decode cX4_derivativeChanges 46 = .ok (.iload 5, 2) := by decide +kernel
theorem dX4_derivativeChanges_48 : decode cX4_derivativeChanges 48 = .ok (.istore_n 3, 1) := by decide +kernel
theorem dX4_derivativeChanges_49 : decode cX4_derivativeChanges 49 = .ok (.iinc 4 1, 3) := by decide +kernel
theorem dX4_derivativeChanges_52 : decode cX4_derivativeChanges 52 = .ok (.goto (-40), 3) := by decide +kernel
theorem dX4_derivativeChanges_55 : decode cX4_derivativeChanges 55 = .ok (.iload_n 2, 1) := by decide +kernel
theorem dX4_derivativeChanges_56 : decode cX4_derivativeChanges 56 = .ok (.ireturn, 1) := by decide +kernel
theorem dX5_init_0 : decode cX5_init 0 = .ok (.aload_n 0, 1) := by decide +kernel
theorem dX5_init_1 : decode cX5_init 1 = .ok (.invokespecial 1, 3) := by decide +kernel
theorem dX5_init_4 : decode cX5_init 4 = .ok (.aload_n 0, 1) := by decide +kernel
theorem dX5_init_5 : decode cX5_init 5 = .ok (.iload_n 1, 1) := by decide +kernel
theorem dX5_init_6 : decode cX5_init 6 = .ok (.putfield 7, 3) := by decide +kernel
theorem dX5_init_9 : decode cX5_init 9 = .ok (.aload_n 0, 1) := by decide +kernel
theorem dX5_init_10 : decode cX5_init 10 = .ok (.iload_n 2, 1) := by decide +kernel
theorem dX5_init_11 : decode cX5_init 11 = .ok (.putfield 13, 3) := by decide +kernel
theorem dX5_init_14 : decode cX5_init 14 = .ok (.aload_n 0, 1) := by decide +kernel
theorem dX5_init_15 : decode cX5_init 15 = .ok (.iload_n 3, 1) := by decide +kernel
theorem dX5_init_16 : decode cX5_init 16 = .ok (.putfield 16, 3) := by decide +kernel
theorem dX5_init_19 : decode cX5_init 19 = .ok (.aload_n 0, 1) := by decide +kernel
theorem dX5_init_20 : decode cX5_init 20 = .ok (.iload 4, 2) := by decide +kernel
theorem dX5_init_22 : decode cX5_init 22 = .ok (.putfield 19, 3) := by decide +kernel
theorem dX5_init_25 : decode cX5_init 25 = .ok (.aload_n 0, 1) := by decide +kernel
theorem dX5_init_26 : decode cX5_init 26 = .ok (.iload 5, 2) := by decide +kernel
theorem dX5_init_28 : decode cX5_init 28 = .ok (.putfield 23, 3) := by decide +kernel
theorem dX5_init_31 : decode cX5_init 31 = .ok (.return_, 1) := by decide +kernel
theorem dX6_init_0 : decode cX6_init 0 = .ok (.aload_n 0, 1) := by decide +kernel
theorem dX6_init_1 : decode cX6_init 1 = .ok (.invokespecial 1, 3) := by decide +kernel
theorem dX6_init_4 : decode cX6_init 4 = .ok (.aload_n 0, 1) := by decide +kernel
theorem dX6_init_5 : decode cX6_init 5 = .ok (.new 7, 3) := by decide +kernel
theorem dX6_init_8 : decode cX6_init 8 = .ok (.dup, 1) := by decide +kernel
theorem dX6_init_9 : decode cX6_init 9 = .ok (.invokespecial 9, 3) := by decide +kernel
theorem dX6_init_12 : decode cX6_init 12 = .ok (.putfield 10, 3) := by decide +kernel
theorem dX6_init_15 : decode cX6_init 15 = .ok (.aload_n 0, 1) := by decide +kernel
theorem dX6_init_16 : decode cX6_init 16 = .ok (.iconst (-1), 1) := by decide +kernel
theorem dX6_init_17 : decode cX6_init 17 = .ok (.putfield 16, 3) := by decide +kernel
theorem dX6_init_20 : decode cX6_init 20 = .ok (.aload_n 0, 1) := by decide +kernel
theorem dX6_init_21 : decode cX6_init 21 = .ok (.aload_n 1, 1) := by decide +kernel
theorem dX6_init_22 : decode cX6_init 22 = .ok (.iconst 0, 1) := by decide +kernel
theorem dX6_init_23 : decode cX6_init 23 = .ok (.iaload, 1) := by decide +kernel
theorem dX6_init_24 : decode cX6_init 24 = .ok (.newarray .int, 2) := by decide +kernel
theorem dX6_init_26 : decode cX6_init 26 = .ok (.putfield 20, 3) := by decide +kernel
theorem dX6_init_29 : decode cX6_init 29 = .ok (.aload_n 0, 1) := by decide +kernel
theorem dX6_init_30 : decode cX6_init 30 = .ok (.aload_n 1, 1) := by decide +kernel
theorem dX6_init_31 : decode cX6_init 31 = .ok (.iconst 0, 1) := by decide +kernel
theorem dX6_init_32 : decode cX6_init 32 = .ok (.iaload, 1) := by decide +kernel
theorem dX6_init_33 : decode cX6_init 33 = .ok (.newarray .int, 2) := by decide +kernel
theorem dX6_init_35 : decode cX6_init 35 = .ok (.putfield 24, 3) := by decide +kernel
theorem dX6_init_38 : decode cX6_init 38 = .ok (.iconst 0, 1) := by decide +kernel
theorem dX6_init_39 : decode cX6_init 39 = .ok (.istore_n 2, 1) := by decide +kernel
theorem dX6_init_40 : decode cX6_init 40 = .ok (.iload_n 2, 1) := by decide +kernel
theorem dX6_init_41 : decode cX6_init 41 = .ok (.aload_n 1, 1) := by decide +kernel
theorem dX6_init_42 : decode cX6_init 42 = .ok (.iconst 0, 1) := by decide +kernel
theorem dX6_init_43 : decode cX6_init 43 = .ok (.iaload, 1) := by decide +kernel
theorem dX6_init_44 : decode cX6_init 44 = .ok (.if_icmp .ge 17, 3) := by decide +kernel
theorem dX6_init_47 : decode cX6_init 47 = .ok (.aload_n 0, 1) := by decide +kernel
theorem dX6_init_48 : decode cX6_init 48 = .ok (.getfield 24, 3) := by decide +kernel
theorem dX6_init_51 : decode cX6_init 51 = .ok (.iload_n 2, 1) := by decide +kernel
theorem dX6_init_52 : decode cX6_init 52 = .ok (.bipush (-100), 2) := by decide +kernel
theorem dX6_init_54 : decode cX6_init 54 = .ok (.iastore, 1) := by decide +kernel
theorem dX6_init_55 : decode cX6_init 55 = .ok (.iinc 2 1, 3) := by decide +kernel
theorem dX6_init_58 : decode cX6_init 58 = .ok (.goto (-18), 3) := by decide +kernel
theorem dX6_init_61 : decode cX6_init 61 = .ok (.aload_n 0, 1) := by decide +kernel
theorem dX6_init_62 : decode cX6_init 62 = .ok (.aload_n 1, 1) := by decide +kernel
theorem dX6_init_63 : decode cX6_init 63 = .ok (.iconst 1, 1) := by decide +kernel
theorem dX6_init_64 : decode cX6_init 64 = .ok (.iaload, 1) := by decide +kernel
theorem dX6_init_65 : decode cX6_init 65 = .ok (.putfield 27, 3) := by decide +kernel
theorem dX6_init_68 : decode cX6_init 68 = .ok (.aload_n 0, 1) := by decide +kernel
theorem dX6_init_69 : decode cX6_init 69 = .ok (.aload_n 1, 1) := by decide +kernel
theorem dX6_init_70 : decode cX6_init 70 = .ok (.iconst 2, 1) := by decide +kernel
theorem dX6_init_71 : decode cX6_init 71 = .ok (.iaload, 1) := by decide +kernel
theorem dX6_init_72 : decode cX6_init 72 = .ok (.putfield 30, 3) := by decide +kernel
theorem dX6_init_75 : decode cX6_init 75 = .ok (.aload_n 0, 1) := by decide +kernel
theorem dX6_init_76 : decode cX6_init 76 = .ok (.aload_n 1, 1) := by decide +kernel
theorem dX6_init_77 : decode cX6_init 77 = .ok (.iconst 3, 1) := by decide +kernel
theorem dX6_init_78 : decode cX6_init 78 = .ok (.iaload, 1) := by decide +kernel
theorem dX6_init_79 : decode cX6_init 79 = .ok (.putfield 33, 3) := by decide +kernel
theorem dX6_init_82 : decode cX6_init 82 = .ok (.aload_n 0, 1) := by decide +kernel
theorem dX6_init_83 : decode cX6_init 83 = .ok (.aload_n 1, 1) := by decide +kernel
theorem dX6_init_84 : decode cX6_init 84 = .ok (.iconst 4, 1) := by decide +kernel
theorem dX6_init_85 : decode cX6_init 85 = .ok (.iaload, 1) := by decide +kernel
theorem dX6_init_86 : decode cX6_init 86 = .ok (.putfield 36, 3) := by decide +kernel
theorem dX6_init_89 : decode cX6_init 89 = .ok (.aload_n 0, 1) := by decide +kernel
theorem dX6_init_90 : decode cX6_init 90 = .ok (.aload_n 1, 1) := by decide +kernel
theorem dX6_init_91 : decode cX6_init 91 = .ok (.iconst 5, 1) := by decide +kernel
theorem dX6_init_92 : decode cX6_init 92 = .ok (.iaload, 1) := by decide +kernel
theorem dX6_init_93 : decode cX6_init 93 = .ok (.putfield 39, 3) := by decide +kernel
theorem dX6_init_96 : decode cX6_init 96 = .ok (.aload_n 0, 1) := by decide +kernel
theorem dX6_init_97 : decode cX6_init 97 = .ok (.aload_n 1, 1) := by decide +kernel
theorem dX6_init_98 : decode cX6_init 98 = .ok (.bipush 6, 2) := by decide +kernel
theorem dX6_init_100 : decode cX6_init 100 = .ok (.iaload, 1) := by decide +kernel
theorem dX6_init_101 : decode cX6_init 101 = .ok (.putfield 42, 3) := by decide +kernel
theorem dX6_init_104 : decode cX6_init 104 = .ok (.aload_n 0, 1) := by decide +kernel
theorem dX6_init_105 : decode cX6_init 105 = .ok (.getfield 10, 3) := by decide +kernel
theorem dX6_init_108 : decode cX6_init 108 = .ok (.new 7, 3) := by decide +kernel
theorem dX6_init_111 : decode cX6_init 111 = .ok (.dup, 1) := by decide +kernel
theorem dX6_init_112 : decode cX6_init 112 = .ok (.invokespecial 9, 3) := by decide +kernel
theorem dX6_init_115 : decode cX6_init 115 = .ok (.invokevirtual 45, 3) := by decide +kernel
theorem dX6_init_118 : decode cX6_init 118 = .ok (.pop, 1) := by decide +kernel
theorem dX6_init_119 : decode cX6_init 119 = .ok (.aload_n 0, 1) := by decide +kernel
theorem dX6_init_120 : decode cX6_init 120 = .ok (.getfield 10, 3) := by decide +kernel
theorem dX6_init_123 : decode cX6_init 123 = .ok (.new 7, 3) := by decide +kernel
theorem dX6_init_126 : decode cX6_init 126 = .ok (.dup, 1) := by decide +kernel
theorem dX6_init_127 : decode cX6_init 127 = .ok (.invokespecial 9, 3) := by decide +kernel
theorem dX6_init_130 : decode cX6_init 130 = .ok (.invokevirtual 45, 3) := by decide +kernel
theorem dX6_init_133 : decode cX6_init 133 = .ok (.pop, 1) := by decide +kernel
theorem dX6_init_134 : decode cX6_init 134 = .ok (.return_, 1) := by decide +kernel
theorem dX6_whose_0 : decode cX6_whose 0 = .ok (.aload_n 0, 1) := by decide +kernel
theorem dX6_whose_1 : decode cX6_whose 1 = .ok (.getfield 49, 3) := by decide +kernel
theorem dX6_whose_4 : decode cX6_whose 4 = .ok (.iconst 2, 1) := by decide +kernel
theorem dX6_whose_5 : decode cX6_whose 5 = .ok (.irem, 1) := by decide +kernel
theorem dX6_whose_6 : decode cX6_whose 6 = .ok (.ireturn, 1) := by decide +kernel
theorem dX6_isBarred_0 : decode cX6_isBarred 0 = .ok (.aload_n 0, 1) := by decide +kernel
theorem dX6_isBarred_1 : decode cX6_isBarred 1 = .ok (.getfield 24, 3) := by decide +kernel
theorem dX6_isBarred_4 : decode cX6_isBarred 4 = .ok (.iload_n 1, 1) := by decide +kernel
theorem dX6_isBarred_5 : decode cX6_isBarred 5 = .ok (.iaload, 1) := by decide +kernel
theorem dX6_isBarred_6 : decode cX6_isBarred 6 = .ok (.ifCond .lt 32, 3) := by decide +kernel
theorem dX6_isBarred_9 : decode cX6_isBarred 9 = .ok (.aload_n 0, 1) := by decide +kernel
theorem dX6_isBarred_10 : decode cX6_isBarred 10 = .ok (.getfield 27, 3) := by decide +kernel
theorem dX6_isBarred_13 : decode cX6_isBarred 13 = .ok (.ifCond .eq 21, 3) := by decide +kernel
theorem dX6_isBarred_16 : decode cX6_isBarred 16 = .ok (.aload_n 0, 1) := by decide +kernel
theorem dX6_isBarred_17 : decode cX6_isBarred 17 = .ok (.getfield 49, 3) := by decide +kernel
theorem dX6_isBarred_20 : decode cX6_isBarred 20 = .ok (.aload_n 0, 1) := by decide +kernel
theorem dX6_isBarred_21 : decode cX6_isBarred 21 = .ok (.getfield 24, 3) := by decide +kernel
theorem dX6_isBarred_24 : decode cX6_isBarred 24 = .ok (.iload_n 1, 1) := by decide +kernel
theorem dX6_isBarred_25 : decode cX6_isBarred 25 = .ok (.iaload, 1) := by decide +kernel
theorem dX6_isBarred_26 : decode cX6_isBarred 26 = .ok (.isub, 1) := by decide +kernel
theorem dX6_isBarred_27 : decode cX6_isBarred 27 = .ok (.aload_n 0, 1) := by decide +kernel
theorem dX6_isBarred_28 : decode cX6_isBarred 28 = .ok (.getfield 27, 3) := by decide +kernel
theorem dX6_isBarred_31 : decode cX6_isBarred 31 = .ok (.if_icmp .gt 7, 3) := by decide +kernel
theorem dX6_isBarred_34 : decode cX6_isBarred 34 = .ok (.iconst 1, 1) := by decide +kernel
theorem dX6_isBarred_35 : decode cX6_isBarred 35 = .ok (.goto 4, 3) := by decide +kernel
theorem dX6_isBarred_38 : decode cX6_isBarred 38 = .ok (.iconst 0, 1) := by decide +kernel
theorem dX6_isBarred_39 : decode cX6_isBarred 39 = .ok (.ireturn, 1) := by decide +kernel
theorem dX6_isZero_0 : decode cX6_isZero 0 = .ok (.iconst 0, 1) := by decide +kernel
theorem dX6_isZero_1 : decode cX6_isZero 1 = .ok (.istore_n 2, 1) := by decide +kernel
theorem dX6_isZero_2 : decode cX6_isZero 2 = .ok (.iload_n 2, 1) := by decide +kernel
theorem dX6_isZero_3 : decode cX6_isZero 3 = .ok (.aload_n 0, 1) := by decide +kernel
theorem dX6_isZero_4 : decode cX6_isZero 4 = .ok (.getfield 20, 3) := by decide +kernel
theorem dX6_isZero_7 : decode cX6_isZero 7 = .ok (.arraylength, 1) := by decide +kernel
theorem dX6_isZero_8 : decode cX6_isZero 8 = .ok (.if_icmp .ge 25, 3) := by decide +kernel
theorem dX6_isZero_11 : decode cX6_isZero 11 = .ok (.iload_n 2, 1) := by decide +kernel
theorem dX6_isZero_12 : decode cX6_isZero 12 = .ok (.iload_n 1, 1) := by decide +kernel
theorem dX6_isZero_13 : decode cX6_isZero 13 = .ok (.if_icmp .eq 14, 3) := by decide +kernel
theorem dX6_isZero_16 : decode cX6_isZero 16 = .ok (.aload_n 0, 1) := by decide +kernel
theorem dX6_isZero_17 : decode cX6_isZero 17 = .ok (.getfield 20, 3) := by decide +kernel
theorem dX6_isZero_20 : decode cX6_isZero 20 = .ok (.iload_n 2, 1) := by decide +kernel
theorem dX6_isZero_21 : decode cX6_isZero 21 = .ok (.iaload, 1) := by decide +kernel
theorem dX6_isZero_22 : decode cX6_isZero 22 = .ok (.ifCond .eq 5, 3) := by decide +kernel
theorem dX6_isZero_25 : decode cX6_isZero 25 = .ok (.iconst 0, 1) := by decide +kernel
theorem dX6_isZero_26 : decode cX6_isZero 26 = .ok (.ireturn, 1) := by decide +kernel
theorem dX6_isZero_27 : decode cX6_isZero 27 = .ok (.iinc 2 1, 3) := by decide +kernel
theorem dX6_isZero_30 : decode cX6_isZero 30 = .ok (.goto (-28), 3) := by decide +kernel
theorem dX6_isZero_33 : decode cX6_isZero 33 = .ok (.iconst 1, 1) := by decide +kernel
theorem dX6_isZero_34 : decode cX6_isZero 34 = .ok (.ireturn, 1) := by decide +kernel
theorem dX6_whyLay_0 : decode cX6_whyLay 0 = .ok (.aload_n 0, 1) := by decide +kernel
theorem dX6_whyLay_1 : decode cX6_whyLay 1 = .ok (.getfield 52, 3) := by decide +kernel
theorem dX6_whyLay_4 : decode cX6_whyLay 4 = .ok (.ifCond .eq 7, 3) := by decide +kernel
theorem dX6_whyLay_7 : decode cX6_whyLay 7 = .ok (.iconst 1, 1) := by decide +kernel
theorem dX6_whyLay_8 : decode cX6_whyLay 8 = .ok (.goto 62, 3) := by decide +kernel
theorem dX6_whyLay_11 : decode cX6_whyLay 11 = .ok (.aload_n 0, 1) := by decide +kernel
theorem dX6_whyLay_12 : decode cX6_whyLay 12 = .ok (.iload_n 2, 1) := by decide +kernel
theorem dX6_whyLay_13 : decode cX6_whyLay 13 = .ok (.invokevirtual 56, 3) := by decide +kernel
theorem dX6_whyLay_16 : decode cX6_whyLay 16 = .ok (.ifCond .eq 8, 3) := by decide +kernel
theorem dX6_whyLay_19 : decode cX6_whyLay 19 = .ok (.bipush 6, 2) := by decide +kernel
theorem dX6_whyLay_21 : decode cX6_whyLay 21 = .ok (.goto 49, 3) := by decide +kernel
theorem dX6_whyLay_24 : decode cX6_whyLay 24 = .ok (.aload_n 0, 1) := by decide +kernel
theorem dX6_whyLay_25 : decode cX6_whyLay 25 = .ok (.getfield 20, 3) := by decide +kernel
theorem dX6_whyLay_28 : decode cX6_whyLay 28 = .ok (.iload_n 2, 1) := by decide +kernel
theorem dX6_whyLay_29 : decode cX6_whyLay 29 = .ok (.iaload, 1) := by decide +kernel
theorem dX6_whyLay_30 : decode cX6_whyLay 30 = .ok (.iload_n 1, 1) := by decide +kernel
theorem dX6_whyLay_31 : decode cX6_whyLay 31 = .ok (.iadd, 1) := by decide +kernel
theorem dX6_whyLay_32 : decode cX6_whyLay 32 = .ok (.invokestatic 60, 3) := by decide +kernel
theorem dX6_whyLay_35 : decode cX6_whyLay 35 = .ok (.bipush 30, 2) := by decide +kernel
theorem dX6_whyLay_37 : decode cX6_whyLay 37 = .ok (.if_icmp .le 8, 3) := by decide +kernel
theorem dX6_whyLay_40 : decode cX6_whyLay 40 = .ok (.bipush 7, 2) := by decide +kernel
theorem dX6_whyLay_42 : decode cX6_whyLay 42 = .ok (.goto 28, 3) := by decide +kernel
theorem dX6_whyLay_45 : decode cX6_whyLay 45 = .ok (.aload_n 0, 1) := by decide +kernel
theorem dX6_whyLay_46 : decode cX6_whyLay 46 = .ok (.getfield 20, 3) := by decide +kernel
theorem dX6_whyLay_49 : decode cX6_whyLay 49 = .ok (.iload_n 2, 1) := by decide +kernel
theorem dX6_whyLay_50 : decode cX6_whyLay 50 = .ok (.iaload, 1) := by decide +kernel
theorem dX6_whyLay_51 : decode cX6_whyLay 51 = .ok (.iload_n 1, 1) := by decide +kernel
theorem dX6_whyLay_52 : decode cX6_whyLay 52 = .ok (.iadd, 1) := by decide +kernel
theorem dX6_whyLay_53 : decode cX6_whyLay 53 = .ok (.ifCond .ne 16, 3) := by decide +kernel
theorem dX6_whyLay_56 : decode cX6_whyLay 56 = .ok (.aload_n 0, 1) := by decide +kernel
theorem dX6_whyLay_57 : decode cX6_whyLay 57 = .ok (.iload_n 2, 1) := by decide +kernel
theorem dX6_whyLay_58 : decode cX6_whyLay 58 = .ok (.invokevirtual 66, 3) := by decide +kernel
theorem dX6_whyLay_61 : decode cX6_whyLay 61 = .ok (.ifCond .eq 8, 3) := by decide +kernel
theorem dX6_whyLay_64 : decode cX6_whyLay 64 = .ok (.bipush 8, 2) := by decide +kernel
theorem dX6_whyLay_66 : decode cX6_whyLay 66 = .ok (.goto 4, 3) := by decide +kernel
theorem dX6_whyLay_69 : decode cX6_whyLay 69 = .ok (.iconst 0, 1) := by decide +kernel
theorem dX6_whyLay_70 : decode cX6_whyLay 70 = .ok (.ireturn, 1) := by decide +kernel
theorem dX6_whyClaim_0 : decode cX6_whyClaim 0 = .ok (.aload_n 0, 1) := by decide +kernel
theorem dX6_whyClaim_1 : decode cX6_whyClaim 1 = .ok (.getfield 10, 3) := by decide +kernel
theorem dX6_whyClaim_4 : decode cX6_whyClaim 4 = .ok (.aload_n 0, 1) := by decide +kernel
theorem dX6_whyClaim_5 : decode cX6_whyClaim 5 = .ok (.invokevirtual 69, 3) := by decide +kernel
theorem dX6_whyClaim_8 : decode cX6_whyClaim 8 = .ok (.invokevirtual 73, 3) := by decide +kernel
theorem dX6_whyClaim_11 : decode cX6_whyClaim 11 = .ok (.checkcast 7, 3) := by decide +kernel
theorem dX6_whyClaim_14 : decode cX6_whyClaim 14 = .ok (.astore_n 2, 1) := by decide +kernel
theorem dX6_whyClaim_15 : decode cX6_whyClaim 15 = .ok (.aload_n 1, 1) := by decide +kernel
theorem dX6_whyClaim_16 : decode cX6_whyClaim 16 = .ok (.getfield 77, 3) := by decide +kernel
theorem dX6_whyClaim_19 : decode cX6_whyClaim 19 = .ok (.istore_n 3, 1) := by decide +kernel
theorem dX6_whyClaim_20 : decode cX6_whyClaim 20 = .ok (.iconst 0, 1) := by decide +kernel
theorem dX6_whyClaim_21 : decode cX6_whyClaim 21 = .ok (.istore 4, 2) := by decide +kernel
theorem dX6_whyClaim_23 : decode cX6_whyClaim 23 = .ok (.aload_n 2, 1) := by decide +kernel
theorem dX6_whyClaim_24 : decode cX6_whyClaim 24 = .ok (.invokevirtual 82, 3) := by decide +kernel
theorem dX6_whyClaim_27 : decode cX6_whyClaim 27 = .ok (.astore 5, 2) := by decide +kernel
theorem dX6_whyClaim_29 : decode cX6_whyClaim 29 = .ok (.aload 5, 2) := by decide +kernel
theorem dX6_whyClaim_31 : decode cX6_whyClaim 31 = .ok (.invokeinterface 86 1, 5) := by decide +kernel
theorem dX6_whyClaim_36 : decode cX6_whyClaim 36 = .ok (.ifCond .eq 63, 3) := by decide +kernel
theorem dX6_whyClaim_39 : decode cX6_whyClaim 39 = .ok (.aload 5, 2) := by decide +kernel
theorem dX6_whyClaim_41 : decode cX6_whyClaim 41 = .ok (.invokeinterface 92 1, 5) := by decide +kernel
theorem dX6_whyClaim_46 : decode cX6_whyClaim 46 = .ok (.checkcast 78, 3) := by decide +kernel
theorem dX6_whyClaim_49 : decode cX6_whyClaim 49 = .ok (.astore 6, 2) := by decide +kernel
theorem dX6_whyClaim_51 : decode cX6_whyClaim 51 = .ok (.iload_n 3, 1) := by decide +kernel
theorem dX6_whyClaim_52 : decode cX6_whyClaim 52 = .ok (.aload 6, 2) := by decide +kernel
theorem dX6_whyClaim_54 : decode cX6_whyClaim 54 = .ok (.getfield 77, 3) := by decide +kernel
theorem dX6_whyClaim_57 : decode cX6_whyClaim 57 = .ok (.iadd, 1) := by decide +kernel
theorem dX6_whyClaim_58 : decode cX6_whyClaim 58 = .ok (.istore_n 3, 1) := by decide +kernel
theorem dX6_whyClaim_59 : decode cX6_whyClaim 59 = .ok (.iload 4, 2) := by decide +kernel
theorem dX6_whyClaim_61 : decode cX6_whyClaim 61 = .ok (.aload 6, 2) := by decide +kernel
theorem dX6_whyClaim_63 : decode cX6_whyClaim 63 = .ok (.getfield 96, 3) := by decide +kernel
theorem dX6_whyClaim_66 : decode cX6_whyClaim 66 = .ok (.aload_n 1, 1) := by decide +kernel
theorem dX6_whyClaim_67 : decode cX6_whyClaim 67 = .ok (.getfield 96, 3) := by decide +kernel
theorem dX6_whyClaim_70 : decode cX6_whyClaim 70 = .ok (.invokestatic 99, 3) := by decide +kernel
theorem dX6_whyClaim_73 : decode cX6_whyClaim 73 = .ok (.aload 6, 2) := by decide +kernel
theorem dX6_whyClaim_75 : decode cX6_whyClaim 75 = .ok (.getfield 103, 3) := by decide +kernel
theorem dX6_whyClaim_78 : decode cX6_whyClaim 78 = .ok (.aload_n 1, 1) := by decide +kernel
theorem dX6_whyClaim_79 : decode cX6_whyClaim 79 = .ok (.getfield 103, 3) := by decide +kernel
theorem dX6_whyClaim_82 : decode cX6_whyClaim 82 = .ok (.invokestatic 106, 3) := by decide +kernel
theorem dX6_whyClaim_85 : decode cX6_whyClaim 85 = .ok (.if_icmp .ge 7, 3) := by decide +kernel
theorem dX6_whyClaim_88 : decode cX6_whyClaim 88 = .ok (.iconst 1, 1) := by decide +kernel
theorem dX6_whyClaim_89 : decode cX6_whyClaim 89 = .ok (.goto 4, 3) := by decide +kernel
theorem dX6_whyClaim_92 : decode cX6_whyClaim 92 = .ok (.iconst 0, 1) := by decide +kernel
theorem dX6_whyClaim_93 : decode cX6_whyClaim 93 = .ok (.ior, 1) := by decide +kernel
theorem dX6_whyClaim_94 : decode cX6_whyClaim 94 = .ok (.istore 4, 2) := by decide +kernel
theorem dX6_whyClaim_96 : decode cX6_whyClaim 96 = .ok (.goto (-67), 3) := by decide +kernel
theorem dX6_whyClaim_99 : decode cX6_whyClaim 99 = .ok (.aload_n 0, 1) := by decide +kernel
theorem dX6_whyClaim_100 : decode cX6_whyClaim 100 = .ok (.getfield 52, 3) := by decide +kernel
theorem dX6_whyClaim_103 : decode cX6_whyClaim 103 = .ok (.ifCond .eq 7, 3) := by decide +kernel
theorem dX6_whyClaim_106 : decode cX6_whyClaim 106 = .ok (.iconst 1, 1) := by decide +kernel
theorem dX6_whyClaim_107 : decode cX6_whyClaim 107 = .ok (.goto 48, 3) := by decide +kernel
theorem dX6_whyClaim_110 : decode cX6_whyClaim 110 = .ok (.aload_n 0, 1) := by decide +kernel
theorem dX6_whyClaim_111 : decode cX6_whyClaim 111 = .ok (.getfield 109, 3) := by decide +kernel
theorem dX6_whyClaim_114 : decode cX6_whyClaim 114 = .ok (.ifCond .eq 7, 3) := by decide +kernel
theorem dX6_whyClaim_117 : decode cX6_whyClaim 117 = .ok (.iconst 2, 1) := by decide +kernel
theorem dX6_whyClaim_118 : decode cX6_whyClaim 118 = .ok (.goto 37, 3) := by decide +kernel
theorem dX6_whyClaim_121 : decode cX6_whyClaim 121 = .ok (.aload_n 2, 1) := by decide +kernel
theorem dX6_whyClaim_122 : decode cX6_whyClaim 122 = .ok (.invokevirtual 112, 3) := by decide +kernel
theorem dX6_whyClaim_125 : decode cX6_whyClaim 125 = .ok (.iconst 4, 1) := by decide +kernel
theorem dX6_whyClaim_126 : decode cX6_whyClaim 126 = .ok (.if_icmp .ne 7, 3) := by decide +kernel
theorem dX6_whyClaim_129 : decode cX6_whyClaim 129 = .ok (.iconst 3, 1) := by decide +kernel
theorem dX6_whyClaim_130 : decode cX6_whyClaim 130 = .ok (.goto 25, 3) := by decide +kernel
theorem dX6_whyClaim_133 : decode cX6_whyClaim 133 = .ok (.iload 4, 2) := by decide +kernel
theorem dX6_whyClaim_135 : decode cX6_whyClaim 135 = .ok (.ifCond .eq 7, 3) := by decide +kernel
theorem dX6_whyClaim_138 : decode cX6_whyClaim 138 = .ok (.iconst 4, 1) := by decide +kernel
theorem dX6_whyClaim_139 : decode cX6_whyClaim 139 = .ok (.goto 16, 3) := by decide +kernel
theorem dX6_whyClaim_142 : decode cX6_whyClaim 142 = .ok (.iload_n 3, 1) := by decide +kernel
theorem dX6_whyClaim_143 : decode cX6_whyClaim 143 = .ok (.aload_n 0, 1) := by decide +kernel
theorem dX6_whyClaim_144 : decode cX6_whyClaim 144 = .ok (.getfield 42, 3) := by decide +kernel
theorem dX6_whyClaim_147 : decode cX6_whyClaim 147 = .ok (.if_icmp .le 7, 3) := by decide +kernel
theorem dX6_whyClaim_150 : decode cX6_whyClaim 150 = .ok (.iconst 5, 1) := by decide +kernel
theorem dX6_whyClaim_151 : decode cX6_whyClaim 151 = .ok (.goto 4, 3) := by decide +kernel
theorem dX6_whyClaim_154 : decode cX6_whyClaim 154 = .ok (.iconst 0, 1) := by decide +kernel
theorem dX6_whyClaim_155 : decode cX6_whyClaim 155 = .ok (.ireturn, 1) := by decide +kernel
theorem dX6_ends_0 : decode cX6_ends 0 = .ok (.aload_n 0, 1) := by decide +kernel
theorem dX6_ends_1 : decode cX6_ends 1 = .ok (.aload_n 0, 1) := by decide +kernel
theorem dX6_ends_2 : decode cX6_ends 2 = .ok (.getfield 49, 3) := by decide +kernel
theorem dX6_ends_5 : decode cX6_ends 5 = .ok (.iconst 1, 1) := by decide +kernel
theorem dX6_ends_6 : decode cX6_ends 6 = .ok (.iadd, 1) := by decide +kernel
theorem dX6_ends_7 : decode cX6_ends 7 = .ok (.aload_n 0, 1) := by decide +kernel
theorem dX6_ends_8 : decode cX6_ends 8 = .ok (.getfield 30, 3) := by decide +kernel
theorem dX6_ends_11 : decode cX6_ends 11 = .ok (.if_icmp .eq 14, 3) := by decide +kernel
theorem dX6_ends_14 : decode cX6_ends 14 = .ok (.iload_n 1, 1) := by decide +kernel
theorem dX6_ends_15 : decode cX6_ends 15 = .ok (.ifCond .eq 14, 3) := by decide +kernel
theorem dX6_ends_18 : decode cX6_ends 18 = .ok (.aload_n 0, 1) := by decide +kernel
theorem dX6_ends_19 : decode cX6_ends 19 = .ok (.getfield 115, 3) := by decide +kernel
theorem dX6_ends_22 : decode cX6_ends 22 = .ok (.ifCond .eq 7, 3) := by decide +kernel
theorem dX6_ends_25 : decode cX6_ends 25 = .ok (.iconst 1, 1) := by decide +kernel
theorem dX6_ends_26 : decode cX6_ends 26 = .ok (.goto 4, 3) := by decide +kernel
theorem dX6_ends_29 : decode cX6_ends 29 = .ok (.iconst 0, 1) := by decide +kernel
theorem dX6_ends_30 : decode cX6_ends 30 = .ok (.putfield 52, 3) := by decide +kernel
theorem dX6_ends_33 : decode cX6_ends 33 = .ok (.aload_n 0, 1) := by decide +kernel
theorem dX6_ends_34 : decode cX6_ends 34 = .ok (.dup, 1) := by decide +kernel
theorem dX6_ends_35 : decode cX6_ends 35 = .ok (.getfield 49, 3) := by decide +kernel
theorem dX6_ends_38 : decode cX6_ends 38 = .ok (.iconst 1, 1) := by decide +kernel
theorem dX6_ends_39 : decode cX6_ends 39 = .ok (.iadd, 1) := by decide +kernel
theorem dX6_ends_40 : decode cX6_ends 40 = .ok (.putfield 49, 3) := by decide +kernel
theorem dX6_ends_43 : decode cX6_ends 43 = .ok (.aload_n 0, 1) := by decide +kernel
theorem dX6_ends_44 : decode cX6_ends 44 = .ok (.iload_n 1, 1) := by decide +kernel
theorem dX6_ends_45 : decode cX6_ends 45 = .ok (.putfield 115, 3) := by decide +kernel
theorem dX6_ends_48 : decode cX6_ends 48 = .ok (.aload_n 0, 1) := by decide +kernel
theorem dX6_ends_49 : decode cX6_ends 49 = .ok (.iconst 0, 1) := by decide +kernel
theorem dX6_ends_50 : decode cX6_ends 50 = .ok (.putfield 109, 3) := by decide +kernel
theorem dX6_ends_53 : decode cX6_ends 53 = .ok (.iconst 1, 1) := by decide +kernel
theorem dX6_ends_54 : decode cX6_ends 54 = .ok (.istore_n 2, 1) := by decide +kernel
theorem dX6_ends_55 : decode cX6_ends 55 = .ok (.iconst 0, 1) := by decide +kernel
theorem dX6_ends_56 : decode cX6_ends 56 = .ok (.istore_n 3, 1) := by decide +kernel
theorem dX6_ends_57 : decode cX6_ends 57 = .ok (.iload_n 3, 1) := by decide +kernel
theorem dX6_ends_58 : decode cX6_ends 58 = .ok (.aload_n 0, 1) := by decide +kernel
theorem dX6_ends_59 : decode cX6_ends 59 = .ok (.getfield 20, 3) := by decide +kernel
theorem dX6_ends_62 : decode cX6_ends 62 = .ok (.arraylength, 1) := by decide +kernel
theorem dX6_ends_63 : decode cX6_ends 63 = .ok (.if_icmp .ge 17, 3) := by decide +kernel
theorem dX6_ends_66 : decode cX6_ends 66 = .ok (.iload_n 2, 1) := by decide +kernel
theorem dX6_ends_67 : decode cX6_ends 67 = .ok (.aload_n 0, 1) := by decide +kernel
theorem dX6_ends_68 : decode cX6_ends 68 = .ok (.iload_n 3, 1) := by decide +kernel
theorem dX6_ends_69 : decode cX6_ends 69 = .ok (.invokevirtual 56, 3) := by decide +kernel
theorem dX6_ends_72 : decode cX6_ends 72 = .ok (.iand, 1) := by decide +kernel
theorem dX6_ends_73 : decode cX6_ends 73 = .ok (.istore_n 2, 1) := by decide +kernel
theorem dX6_ends_74 : decode cX6_ends 74 = .ok (.iinc 3 1, 3) := by decide +kernel
theorem dX6_ends_77 : decode cX6_ends 77 = .ok (.goto (-20), 3) := by decide +kernel
theorem dX6_ends_80 : decode cX6_ends 80 = .ok (.aload_n 0, 1) := by decide +kernel
theorem dX6_ends_81 : decode cX6_ends 81 = .ok (.dup, 1) := by decide +kernel
theorem dX6_ends_82 : decode cX6_ends 82 = .ok (.getfield 52, 3) := by decide +kernel
theorem dX6_ends_85 : decode cX6_ends 85 = .ok (.iload_n 2, 1) := by decide +kernel
theorem dX6_ends_86 : decode cX6_ends 86 = .ok (.ior, 1) := by decide +kernel
theorem dX6_ends_87 : decode cX6_ends 87 = .ok (.putfield 52, 3) := by decide +kernel
theorem dX6_ends_90 : decode cX6_ends 90 = .ok (.return_, 1) := by decide +kernel
theorem dX6_value_0 : decode cX6_value 0 = .ok (.lconst 0, 1) := by decide +kernel
theorem dX6_value_1 : decode cX6_value 1 = .ok (.lstore_n 2, 1) := by decide +kernel
theorem dX6_value_2 : decode cX6_value 2 = .ok (.lconst 1, 1) := by decide +kernel
theorem dX6_value_3 : decode cX6_value 3 = .ok (.lstore 4, 2) := by decide +kernel
theorem dX6_value_5 : decode cX6_value 5 = .ok (.iconst 0, 1) := by decide +kernel
theorem dX6_value_6 : decode cX6_value 6 = .ok (.istore 6, 2) := by decide +kernel
theorem dX6_value_8 : decode cX6_value 8 = .ok (.iload 6, 2) := by decide +kernel
theorem dX6_value_10 : decode cX6_value 10 = .ok (.aload_n 0, 1) := by decide +kernel
theorem dX6_value_11 : decode cX6_value 11 = .ok (.getfield 20, 3) := by decide +kernel
theorem dX6_value_14 : decode cX6_value 14 = .ok (.arraylength, 1) := by decide +kernel
theorem dX6_value_15 : decode cX6_value 15 = .ok (.if_icmp .ge 30, 3) := by decide +kernel
theorem dX6_value_18 : decode cX6_value 18 = .ok (.lload_n 2, 1) := by decide +kernel
theorem dX6_value_19 : decode cX6_value 19 = .ok (.aload_n 0, 1) := by decide +kernel
theorem dX6_value_20 : decode cX6_value 20 = .ok (.getfield 20, 3) := by decide +kernel
theorem dX6_value_23 : decode cX6_value 23 = .ok (.iload 6, 2) := by decide +kernel
theorem dX6_value_25 : decode cX6_value 25 = .ok (.iaload, 1) := by decide +kernel
theorem dX6_value_26 : decode cX6_value 26 = .ok (.i2l, 1) := by decide +kernel
theorem dX6_value_27 : decode cX6_value 27 = .ok (.lload 4, 2) := by decide +kernel
theorem dX6_value_29 : decode cX6_value 29 = .ok (.lmul, 1) := by decide +kernel
theorem dX6_value_30 : decode cX6_value 30 = .ok (.ladd, 1) := by decide +kernel
theorem dX6_value_31 : decode cX6_value 31 = .ok (.lstore_n 2, 1) := by decide +kernel
theorem dX6_value_32 : decode cX6_value 32 = .ok (.lload 4, 2) := by decide +kernel
theorem dX6_value_34 : decode cX6_value 34 = .ok (.iload_n 1, 1) := by decide +kernel
theorem dX6_value_35 : decode cX6_value 35 = .ok (.i2l, 1) := by decide +kernel
theorem dX6_value_36 : decode cX6_value 36 = .ok (.lmul, 1) := by decide +kernel
theorem dX6_value_37 : decode cX6_value 37 = .ok (.lstore 4, 2) := by decide +kernel
theorem dX6_value_39 : decode cX6_value 39 = .ok (.iinc 6 1, 3) := by decide +kernel
theorem dX6_value_42 : decode cX6_value 42 = .ok (.goto (-34), 3) := by decide +kernel
theorem dX6_value_45 : decode cX6_value 45 = .ok (.lload_n 2, 1) := by decide +kernel
theorem dX6_value_46 : decode cX6_value 46 = .ok (.lreturn, 1) := by decide +kernel
theorem dX6_score_0 : decode cX6_score 0 = .ok (.aload_n 0, 1) := by decide +kernel
theorem dX6_score_1 : decode cX6_score 1 = .ok (.getfield 16, 3) := by decide +kernel
theorem dX6_score_4 : decode cX6_score 4 = .ok (.iload_n 2, 1) := by decide +kernel
theorem dX6_score_5 : decode cX6_score 5 = .ok (.if_icmp .ne 10, 3) := by decide +kernel
theorem dX6_score_8 : decode cX6_score 8 = .ok (.aload_n 0, 1) := by decide +kernel
theorem dX6_score_9 : decode cX6_score 9 = .ok (.getfield 39, 3) := by decide +kernel
theorem dX6_score_12 : decode cX6_score 12 = .ok (.goto 4, 3) := by decide +kernel
theorem dX6_score_15 : decode cX6_score 15 = .ok (.iconst 0, 1) := by decide +kernel
theorem dX6_score_16 : decode cX6_score 16 = .ok (.istore_n 3, 1) := by decide +kernel
theorem dX6_score_17 : decode cX6_score 17 = .ok (.aload_n 0, 1) := by decide +kernel
theorem dX6_score_18 : decode cX6_score 18 = .ok (.getfield 33, 3) := by decide +kernel
theorem dX6_score_21 : decode cX6_score 21 = .ok (.ineg, 1) := by decide +kernel
theorem dX6_score_22 : decode cX6_score 22 = .ok (.istore 4, 2) := by decide +kernel
theorem dX6_score_24 : decode cX6_score 24 = .ok (.iload 4, 2) := by decide +kernel
theorem dX6_score_26 : decode cX6_score 26 = .ok (.aload_n 0, 1) := by decide +kernel
theorem dX6_score_27 : decode cX6_score 27 = .ok (.getfield 33, 3) := by decide +kernel
theorem dX6_score_30 : decode cX6_score 30 = .ok (.if_icmp .gt 48, 3) := by decide +kernel
theorem dX6_score_33 : decode cX6_score 33 = .ok (.iload_n 3, 1) := by decide +kernel
theorem dX6_score_34 : decode cX6_score 34 = .ok (.iload_n 2, 1) := by decide +kernel
theorem dX6_score_35 : decode cX6_score 35 = .ok (.ifCond .ne 14, 3) := by decide +kernel
theorem dX6_score_38 : decode cX6_score 38 = .ok (.aload_n 0, 1) := by decide +kernel
theorem dX6_score_39 : decode cX6_score 39 = .ok (.iload 4, 2) := by decide +kernel
theorem dX6_score_41 : decode cX6_score 41 = .ok (.invokevirtual 118, 3) := by decide +kernel
theorem dX6_score_44 : decode cX6_score 44 = .ok (.lconst 0, 1) := by decide +kernel
theorem dX6_score_45 : decode cX6_score 45 = .ok (.lcmp, 1) := by decide +kernel
theorem dX6_score_46 : decode cX6_score 46 = .ok (.ifCond .gt 19, 3) := by decide +kernel
theorem dX6_score_49 : decode cX6_score 49 = .ok (.iload_n 2, 1) := by decide +kernel
theorem dX6_score_50 : decode cX6_score 50 = .ok (.iconst 1, 1) := by decide +kernel
theorem dX6_score_51 : decode cX6_score 51 = .ok (.if_icmp .ne 18, 3) := by decide +kernel
theorem dX6_score_54 : decode cX6_score 54 = .ok (.aload_n 0, 1) := by decide +kernel
theorem dX6_score_55 : decode cX6_score 55 = .ok (.iload 4, 2) := by decide +kernel
theorem dX6_score_57 : decode cX6_score 57 = .ok (.invokevirtual 118, 3) := by decide +kernel
theorem dX6_score_60 : decode cX6_score 60 = .ok (.lconst 0, 1) := by decide +kernel
theorem dX6_score_61 : decode cX6_score 61 = .ok (.lcmp, 1) := by decide +kernel
theorem dX6_score_62 : decode cX6_score 62 = .ok (.ifCond .ge 7, 3) := by decide +kernel
theorem dX6_score_65 : decode cX6_score 65 = .ok (.iconst 1, 1) := by decide +kernel
theorem dX6_score_66 : decode cX6_score 66 = .ok (.goto 4, 3) := by decide +kernel
theorem dX6_score_69 : decode cX6_score 69 = .ok (.iconst 0, 1) := by decide +kernel
theorem dX6_score_70 : decode cX6_score 70 = .ok (.iadd, 1) := by decide +kernel
theorem dX6_score_71 : decode cX6_score 71 = .ok (.istore_n 3, 1) := by decide +kernel
theorem dX6_score_72 : decode cX6_score 72 = .ok (.iinc 4 1, 3) := by decide +kernel
theorem dX6_score_75 : decode cX6_score 75 = .ok (.goto (-51), 3) := by decide +kernel
theorem dX6_score_78 : decode cX6_score 78 = .ok (.aload_n 0, 1) := by decide +kernel
theorem dX6_score_79 : decode cX6_score 79 = .ok (.getfield 10, 3) := by decide +kernel
theorem dX6_score_82 : decode cX6_score 82 = .ok (.iload_n 2, 1) := by decide +kernel
theorem dX6_score_83 : decode cX6_score 83 = .ok (.invokevirtual 73, 3) := by decide +kernel
theorem dX6_score_86 : decode cX6_score 86 = .ok (.checkcast 7, 3) := by decide +kernel
theorem dX6_score_89 : decode cX6_score 89 = .ok (.invokevirtual 82, 3) := by decide +kernel
theorem dX6_score_92 : decode cX6_score 92 = .ok (.astore 4, 2) := by decide +kernel
theorem dX6_score_94 : decode cX6_score 94 = .ok (.aload 4, 2) := by decide +kernel
theorem dX6_score_96 : decode cX6_score 96 = .ok (.invokeinterface 86 1, 5) := by decide +kernel
theorem dX6_score_101 : decode cX6_score 101 = .ok (.ifCond .eq 99, 3) := by decide +kernel
theorem dX6_score_104 : decode cX6_score 104 = .ok (.aload 4, 2) := by decide +kernel
theorem dX6_score_106 : decode cX6_score 106 = .ok (.invokeinterface 92 1, 5) := by decide +kernel
theorem dX6_score_111 : decode cX6_score 111 = .ok (.checkcast 78, 3) := by decide +kernel
theorem dX6_score_114 : decode cX6_score 114 = .ok (.astore 5, 2) := by decide +kernel
theorem dX6_score_116 : decode cX6_score 116 = .ok (.aload_n 1, 1) := by decide +kernel
theorem dX6_score_117 : decode cX6_score 117 = .ok (.aload 5, 2) := by decide +kernel
theorem dX6_score_119 : decode cX6_score 119 = .ok (.getfield 96, 3) := by decide +kernel
theorem dX6_score_122 : decode cX6_score 122 = .ok (.aload 5, 2) := by decide +kernel
theorem dX6_score_124 : decode cX6_score 124 = .ok (.getfield 103, 3) := by decide +kernel
theorem dX6_score_127 : decode cX6_score 127 = .ok (.invokevirtual 122, 3) := by decide +kernel
theorem dX6_score_130 : decode cX6_score 130 = .ok (.istore 6, 2) := by decide +kernel
theorem dX6_score_132 : decode cX6_score 132 = .ok (.iload 6, 2) := by decide +kernel
theorem dX6_score_134 : decode cX6_score 134 = .ok (.ifCond .lt 38, 3) := by decide +kernel
theorem dX6_score_137 : decode cX6_score 137 = .ok (.aload 5, 2) := by decide +kernel
theorem dX6_score_139 : decode cX6_score 139 = .ok (.getfield 127, 3) := by decide +kernel
theorem dX6_score_142 : decode cX6_score 142 = .ok (.ifCond .eq 16, 3) := by decide +kernel
theorem dX6_score_145 : decode cX6_score 145 = .ok (.iload 6, 2) := by decide +kernel
theorem dX6_score_147 : decode cX6_score 147 = .ok (.aload 5, 2) := by decide +kernel
theorem dX6_score_149 : decode cX6_score 149 = .ok (.getfield 130, 3) := by decide +kernel
theorem dX6_score_152 : decode cX6_score 152 = .ok (.if_icmp .lt 20, 3) := by decide +kernel
theorem dX6_score_155 : decode cX6_score 155 = .ok (.goto 13, 3) := by decide +kernel
theorem dX6_score_158 : decode cX6_score 158 = .ok (.iload 6, 2) := by decide +kernel
theorem dX6_score_160 : decode cX6_score 160 = .ok (.aload 5, 2) := by decide +kernel
theorem dX6_score_162 : decode cX6_score 162 = .ok (.getfield 130, 3) := by decide +kernel
theorem dX6_score_165 : decode cX6_score 165 = .ok (.if_icmp .ne 7, 3) := by decide +kernel
theorem dX6_score_168 : decode cX6_score 168 = .ok (.iconst 1, 1) := by decide +kernel
theorem dX6_score_169 : decode cX6_score 169 = .ok (.goto 4, 3) := by decide +kernel
theorem dX6_score_172 : decode cX6_score 172 = .ok (.iconst 0, 1) := by decide +kernel
theorem dX6_score_173 : decode cX6_score 173 = .ok (.istore 7, 2) := by decide +kernel
theorem dX6_score_175 : decode cX6_score 175 = .ok (.iload_n 3, 1) := by decide +kernel
theorem dX6_score_176 : decode cX6_score 176 = .ok (.iload 7, 2) := by decide +kernel
theorem dX6_score_178 : decode cX6_score 178 = .ok (.ifCond .eq 11, 3) := by decide +kernel
theorem dX6_score_181 : decode cX6_score 181 = .ok (.aload 5, 2) := by decide +kernel
theorem dX6_score_183 : decode cX6_score 183 = .ok (.getfield 77, 3) := by decide +kernel
theorem dX6_score_186 : decode cX6_score 186 = .ok (.goto 9, 3) := by decide +kernel
theorem dX6_score_189 : decode cX6_score 189 = .ok (.aload 5, 2) := by decide +kernel
theorem dX6_score_191 : decode cX6_score 191 = .ok (.getfield 77, 3) := by decide +kernel
theorem dX6_score_194 : decode cX6_score 194 = .ok (.ineg, 1) := by decide +kernel
theorem dX6_score_195 : decode cX6_score 195 = .ok (.iadd, 1) := by decide +kernel
theorem dX6_score_196 : decode cX6_score 196 = .ok (.istore_n 3, 1) := by decide +kernel
theorem dX6_score_197 : decode cX6_score 197 = .ok (.goto (-103), 3) := by decide +kernel
theorem dX6_score_200 : decode cX6_score 200 = .ok (.iload_n 3, 1) := by decide +kernel
theorem dX6_score_201 : decode cX6_score 201 = .ok (.ireturn, 1) := by decide +kernel
theorem dX7_init_0 : decode cX7_init 0 = .ok (.aload_n 0, 1) := by decide +kernel
theorem dX7_init_1 : decode cX7_init 1 = .ok (.invokespecial 1, 3) := by decide +kernel
theorem dX7_init_4 : decode cX7_init 4 = .ok (.aload_n 0, 1) := by decide +kernel
theorem dX7_init_5 : decode cX7_init 5 = .ok (.aload_n 1, 1) := by decide +kernel
theorem dX7_init_6 : decode cX7_init 6 = .ok (.putfield 7, 3) := by decide +kernel
theorem dX7_init_9 : decode cX7_init 9 = .ok (.return_, 1) := by decide +kernel
theorem dX7_next_0 : decode cX7_next 0 = .ok (.aload_n 0, 1) := by decide +kernel
theorem dX7_next_1 : decode cX7_next 1 = .ok (.dup, 1) := by decide +kernel
theorem dX7_next_2 : decode cX7_next 2 = .ok (.getfield 13, 3) := by decide +kernel
theorem dX7_next_5 : decode cX7_next 5 = .ok (.iconst 1, 1) := by decide +kernel
theorem dX7_next_6 : decode cX7_next 6 = .ok (.iadd, 1) := by decide +kernel
theorem dX7_next_7 : decode cX7_next 7 = .ok (.putfield 13, 3) := by decide +kernel
theorem dX7_next_10 : decode cX7_next 10 = .ok (.aload_n 0, 1) := by decide +kernel
theorem dX7_next_11 : decode cX7_next 11 = .ok (.getfield 7, 3) := by decide +kernel
theorem dX7_next_14 : decode cX7_next 14 = .ok (.aload_n 0, 1) := by decide +kernel
theorem dX7_next_15 : decode cX7_next 15 = .ok (.getfield 13, 3) := by decide +kernel
theorem dX7_next_18 : decode cX7_next 18 = .ok (.invokestatic 17, 3) := by decide +kernel
theorem dX7_next_21 : decode cX7_next 21 = .ok (.iload_n 1, 1) := by decide +kernel
theorem dX7_next_22 : decode cX7_next 22 = .ok (.irem, 1) := by decide +kernel
theorem dX7_next_23 : decode cX7_next 23 = .ok (.ireturn, 1) := by decide +kernel
end
section
theorem dL_pick_0 : decode cL_pick 0 = .ok (.iload_n 1, 1) := by decide +kernel
theorem dL_pick_1 : decode cL_pick 1 = .ok (.aload_n 0, 1) := by decide +kernel
theorem dL_pick_2 : decode cL_pick 2 = .ok (.arraylength, 1) := by decide +kernel
theorem dL_pick_3 : decode cL_pick 3 = .ok (.if_icmp .ge 9, 3) := by decide +kernel
theorem dL_pick_6 : decode cL_pick 6 = .ok (.aload_n 0, 1) := by decide +kernel
theorem dL_pick_7 : decode cL_pick 7 = .ok (.iload_n 1, 1) := by decide +kernel
theorem dL_pick_8 : decode cL_pick 8 = .ok (.iaload, 1) := by decide +kernel
theorem dL_pick_9 : decode cL_pick 9 = .ok (.goto 7, 3) := by decide +kernel
theorem dL_pick_12 : decode cL_pick 12 = .ok (.bipush 73, 2) := by decide +kernel
theorem dL_pick_14 : decode cL_pick 14 = .ok (.iload_n 1, 1) := by decide +kernel
theorem dL_pick_15 : decode cL_pick 15 = .ok (.imul, 1) := by decide +kernel
theorem dL_pick_16 : decode cL_pick 16 = .ok (.ldc 7, 2) := by decide +kernel
theorem dL_pick_18 : decode cL_pick 18 = .ok (.iand, 1) := by decide +kernel
theorem dL_pick_19 : decode cL_pick 19 = .ok (.ireturn, 1) := by decide +kernel
theorem dL_puts_0 : decode cL_puts 0 = .ok (.aload_n 0, 1) := by decide +kernel
theorem dL_puts_1 : decode cL_puts 1 = .ok (.iconst 0, 1) := by decide +kernel
theorem dL_puts_2 : decode cL_puts 2 = .ok (.invokevirtual 8, 3) := by decide +kernel
theorem dL_puts_5 : decode cL_puts 5 = .ok (.istore_n 2, 1) := by decide +kernel
theorem dL_puts_6 : decode cL_puts 6 = .ok (.iconst 0, 1) := by decide +kernel
theorem dL_puts_7 : decode cL_puts 7 = .ok (.istore_n 3, 1) := by decide +kernel
theorem dL_puts_8 : decode cL_puts 8 = .ok (.iload_n 3, 1) := by decide +kernel
theorem dL_puts_9 : decode cL_puts 9 = .ok (.aload_n 1, 1) := by decide +kernel
theorem dL_puts_10 : decode cL_puts 10 = .ok (.invokevirtual 14, 3) := by decide +kernel
theorem dL_puts_13 : decode cL_puts 13 = .ok (.if_icmp .ge 64, 3) := by decide +kernel
theorem dL_puts_16 : decode cL_puts 16 = .ok (.iconst 0, 1) := by decide +kernel
theorem dL_puts_17 : decode cL_puts 17 = .ok (.istore 4, 2) := by decide +kernel
theorem dL_puts_19 : decode cL_puts 19 = .ok (.iload_n 3, 1) := by decide +kernel
theorem dL_puts_20 : decode cL_puts 20 = .ok (.istore 5, 2) := by decide +kernel
theorem dL_puts_22 : decode cL_puts 22 = .ok (.iload 5, 2) := by decide +kernel
theorem dL_puts_24 : decode cL_puts 24 = .ok (.iload_n 3, 1) := by decide +kernel
theorem dL_puts_25 : decode cL_puts 25 = .ok (.iconst 4, 1) := by decide +kernel
theorem dL_puts_26 : decode cL_puts 26 = .ok (.iadd, 1) := by decide +kernel
theorem dL_puts_27 : decode cL_puts 27 = .ok (.if_icmp .ge 37, 3) := by decide +kernel
theorem dL_puts_30 : decode cL_puts 30 = .ok (.iload 4, 2) := by decide +kernel
theorem dL_puts_32 : decode cL_puts 32 = .ok (.bipush 8, 2) := by decide +kernel
theorem dL_puts_34 : decode cL_puts 34 = .ok (.ishl, 1) := by decide +kernel
theorem dL_puts_35 : decode cL_puts 35 = .ok (.iload 5, 2) := by decide +kernel
theorem dL_puts_37 : decode cL_puts 37 = .ok (.aload_n 1, 1) := by decide +kernel
theorem dL_puts_38 : decode cL_puts 38 = .ok (.invokevirtual 14, 3) := by decide +kernel
theorem dL_puts_41 : decode cL_puts 41 = .ok (.if_icmp .ge 12, 3) := by decide +kernel
theorem dL_puts_44 : decode cL_puts 44 = .ok (.aload_n 1, 1) := by decide +kernel
theorem dL_puts_45 : decode cL_puts 45 = .ok (.iload 5, 2) := by decide +kernel
theorem dL_puts_47 : decode cL_puts 47 = .ok (.invokevirtual 20, 3) := by decide +kernel
theorem dL_puts_50 : decode cL_puts 50 = .ok (.goto 5, 3) := by decide +kernel
theorem dL_puts_53 : decode cL_puts 53 = .ok (.bipush 32, 2) := by decide +kernel
theorem dL_puts_55 : decode cL_puts 55 = .ok (.ior, 1) := by decide +kernel
theorem dL_puts_56 : decode cL_puts 56 = .ok (.istore 4, 2) := by decide +kernel
theorem dL_puts_58 : decode cL_puts 58 = .ok (.iinc 5 1, 3) := by decide +kernel
theorem dL_puts_61 : decode cL_puts 61 = .ok (.goto (-39), 3) := by decide +kernel
theorem dL_puts_64 : decode cL_puts 64 = .ok (.aload_n 0, 1) := by decide +kernel
theorem dL_puts_65 : decode cL_puts 65 = .ok (.iload 4, 2) := by decide +kernel
theorem dL_puts_67 : decode cL_puts 67 = .ok (.invokevirtual 24, 3) := by decide +kernel
theorem dL_puts_70 : decode cL_puts 70 = .ok (.istore_n 2, 1) := by decide +kernel
theorem dL_puts_71 : decode cL_puts 71 = .ok (.iinc 3 4, 3) := by decide +kernel
theorem dL_puts_74 : decode cL_puts 74 = .ok (.goto (-66), 3) := by decide +kernel
theorem dL_puts_77 : decode cL_puts 77 = .ok (.aload_n 0, 1) := by decide +kernel
theorem dL_puts_78 : decode cL_puts 78 = .ok (.aload_n 1, 1) := by decide +kernel
theorem dL_puts_79 : decode cL_puts 79 = .ok (.invokevirtual 14, 3) := by decide +kernel
theorem dL_puts_82 : decode cL_puts 82 = .ok (.invokevirtual 8, 3) := by decide +kernel
theorem dL_puts_85 : decode cL_puts 85 = .ok (.istore_n 2, 1) := by decide +kernel
theorem dL_puts_86 : decode cL_puts 86 = .ok (.return_, 1) := by decide +kernel
theorem dL_sign_0 : decode cL_sign 0 = .ok (.lload_n 0, 1) := by decide +kernel
theorem dL_sign_1 : decode cL_sign 1 = .ok (.lconst 0, 1) := by decide +kernel
theorem dL_sign_2 : decode cL_sign 2 = .ok (.lcmp, 1) := by decide +kernel
theorem dL_sign_3 : decode cL_sign 3 = .ok (.ifCond .le 7, 3) := by decide +kernel
theorem dL_sign_6 : decode cL_sign 6 = .ok (.iconst 1, 1) := by decide +kernel
theorem dL_sign_7 : decode cL_sign 7 = .ok (.goto 14, 3) := by decide +kernel
theorem dL_sign_10 : decode cL_sign 10 = .ok (.lload_n 0, 1) := by decide +kernel
theorem dL_sign_11 : decode cL_sign 11 = .ok (.lconst 0, 1) := by decide +kernel
theorem dL_sign_12 : decode cL_sign 12 = .ok (.lcmp, 1) := by decide +kernel
theorem dL_sign_13 : decode cL_sign 13 = .ok (.ifCond .ge 7, 3) := by decide +kernel
theorem dL_sign_16 : decode cL_sign 16 = .ok (.iconst (-1), 1) := by decide +kernel
theorem dL_sign_17 : decode cL_sign 17 = .ok (.goto 4, 3) := by decide +kernel
theorem dL_sign_20 : decode cL_sign 20 = .ok (.iconst 0, 1) := by decide +kernel
theorem dL_sign_21 : decode cL_sign 21 = .ok (.ireturn, 1) := by decide +kernel
theorem dL_fine_0 : decode cL_fine 0 = .ok (.lconst 0, 1) := by decide +kernel
theorem dL_fine_1 : decode cL_fine 1 = .ok (.lstore_n 2, 1) := by decide +kernel
theorem dL_fine_2 : decode cL_fine 2 = .ok (.aload_n 0, 1) := by decide +kernel
theorem dL_fine_3 : decode cL_fine 3 = .ok (.getfield 27, 3) := by decide +kernel
theorem dL_fine_6 : decode cL_fine 6 = .ok (.arraylength, 1) := by decide +kernel
theorem dL_fine_7 : decode cL_fine 7 = .ok (.iconst 1, 1) := by decide +kernel
theorem dL_fine_8 : decode cL_fine 8 = .ok (.isub, 1) := by decide +kernel
theorem dL_fine_9 : decode cL_fine 9 = .ok (.istore 4, 2) := by decide +kernel
theorem dL_fine_11 : decode cL_fine 11 = .ok (.iload 4, 2) := by decide +kernel
theorem dL_fine_13 : decode cL_fine 13 = .ok (.istore 5, 2) := by decide +kernel
theorem dL_fine_15 : decode cL_fine 15 = .ok (.iload 5, 2) := by decide +kernel
theorem dL_fine_17 : decode cL_fine 17 = .ok (.ifCond .lt 52, 3) := by decide +kernel
theorem dL_fine_20 : decode cL_fine 20 = .ok (.aload_n 0, 1) := by decide +kernel
theorem dL_fine_21 : decode cL_fine 21 = .ok (.getfield 27, 3) := by decide +kernel
theorem dL_fine_24 : decode cL_fine 24 = .ok (.iload 5, 2) := by decide +kernel
theorem dL_fine_26 : decode cL_fine 26 = .ok (.iaload, 1) := by decide +kernel
theorem dL_fine_27 : decode cL_fine 27 = .ok (.i2l, 1) := by decide +kernel
theorem dL_fine_28 : decode cL_fine 28 = .ok (.lstore 6, 2) := by decide +kernel
theorem dL_fine_30 : decode cL_fine 30 = .ok (.iload 5, 2) := by decide +kernel
theorem dL_fine_32 : decode cL_fine 32 = .ok (.istore 8, 2) := by decide +kernel
theorem dL_fine_34 : decode cL_fine 34 = .ok (.iload 8, 2) := by decide +kernel
theorem dL_fine_36 : decode cL_fine 36 = .ok (.iload 4, 2) := by decide +kernel
theorem dL_fine_38 : decode cL_fine 38 = .ok (.if_icmp .ge 17, 3) := by decide +kernel
theorem dL_fine_41 : decode cL_fine 41 = .ok (.lload 6, 2) := by decide +kernel
theorem dL_fine_43 : decode cL_fine 43 = .ok (.ldc2_w 33, 3) := by decide +kernel
theorem dL_fine_46 : decode cL_fine 46 = .ok (.lmul, 1) := by decide +kernel
theorem dL_fine_47 : decode cL_fine 47 = .ok (.lstore 6, 2) := by decide +kernel
theorem dL_fine_49 : decode cL_fine 49 = .ok (.iinc 8 1, 3) := by decide +kernel
theorem dL_fine_52 : decode cL_fine 52 = .ok (.goto (-18), 3) := by decide +kernel
theorem dL_fine_55 : decode cL_fine 55 = .ok (.lload_n 2, 1) := by decide +kernel
theorem dL_fine_56 : decode cL_fine 56 = .ok (.iload_n 1, 1) := by decide +kernel
theorem dL_fine_57 : decode cL_fine 57 = .ok (.i2l, 1) := by decide +kernel
theorem dL_fine_58 : decode cL_fine 58 = .ok (.lmul, 1) := by decide +kernel
theorem dL_fine_59 : decode cL_fine 59 = .ok (.lload 6, 2) := by decide +kernel
theorem dL_fine_61 : decode cL_fine 61 = .ok (.ladd, 1) := by decide +kernel
theorem dL_fine_62 : decode cL_fine 62 = .ok (.lstore_n 2, 1) := by decide +kernel
theorem dL_fine_63 : decode cL_fine 63 = .ok (.iinc 5 (-1), 3) := by decide +kernel
theorem dL_fine_66 : decode cL_fine 66 = .ok (.goto (-51), 3) := by decide +kernel
theorem dL_fine_69 : decode cL_fine 69 = .ok (.lload_n 2, 1) := by decide +kernel
theorem dL_fine_70 : decode cL_fine 70 = .ok (.lreturn, 1) := by decide +kernel
theorem dL_areRoots_0 : decode cL_areRoots 0 = .ok (.aload_n 1, 1) := by decide +kernel
theorem dL_areRoots_1 : decode cL_areRoots 1 = .ok (.iconst (-1), 1) := by decide +kernel
theorem dL_areRoots_2 : decode cL_areRoots 2 = .ok (.invokevirtual 35, 3) := by decide +kernel
theorem dL_areRoots_5 : decode cL_areRoots 5 = .ok (.istore_n 2, 1) := by decide +kernel
theorem dL_areRoots_6 : decode cL_areRoots 6 = .ok (.aload_n 0, 1) := by decide +kernel
theorem dL_areRoots_7 : decode cL_areRoots 7 = .ok (.invokevirtual 39, 3) := by decide +kernel
theorem dL_areRoots_10 : decode cL_areRoots 10 = .ok (.istore_n 3, 1) := by decide +kernel
theorem dL_areRoots_11 : decode cL_areRoots 11 = .ok (.iload_n 2, 1) := by decide +kernel
theorem dL_areRoots_12 : decode cL_areRoots 12 = .ok (.ifCond .eq 79, 3) := by decide +kernel
theorem dL_areRoots_15 : decode cL_areRoots 15 = .ok (.iload_n 3, 1) := by decide +kernel
theorem dL_areRoots_16 : decode cL_areRoots 16 = .ok (.iconst (-1), 1) := by decide +kernel
theorem dL_areRoots_17 : decode cL_areRoots 17 = .ok (.if_icmp .ne 72, 3) := by decide +kernel
theorem dL_areRoots_20 : decode cL_areRoots 20 = .ok (.aload_n 0, 1) := by decide +kernel
theorem dL_areRoots_21 : decode cL_areRoots 21 = .ok (.bipush (-20), 2) := by decide +kernel
theorem dL_areRoots_23 : decode cL_areRoots 23 = .ok (.bipush 20, 2) := by decide +kernel
theorem dL_areRoots_25 : decode cL_areRoots 25 = .ok (.invokevirtual 42, 3) := by decide +kernel
theorem dL_areRoots_28 : decode cL_areRoots 28 = .ok (.iconst (-1), 1) := by decide +kernel
theorem dL_areRoots_29 : decode cL_areRoots 29 = .ok (.if_icmp .ne 60, 3) := by decide +kernel
theorem dL_areRoots_32 : decode cL_areRoots 32 = .ok (.aload_n 0, 1) := by decide +kernel
theorem dL_areRoots_33 : decode cL_areRoots 33 = .ok (.invokevirtual 46, 3) := by decide +kernel
theorem dL_areRoots_36 : decode cL_areRoots 36 = .ok (.iconst (-1), 1) := by decide +kernel
theorem dL_areRoots_37 : decode cL_areRoots 37 = .ok (.if_icmp .ne 52, 3) := by decide +kernel
theorem dL_areRoots_40 : decode cL_areRoots 40 = .ok (.aload_n 0, 1) := by decide +kernel
theorem dL_areRoots_41 : decode cL_areRoots 41 = .ok (.invokevirtual 49, 3) := by decide +kernel
theorem dL_areRoots_44 : decode cL_areRoots 44 = .ok (.ifCond .ne 45, 3) := by decide +kernel
theorem dL_areRoots_47 : decode cL_areRoots 47 = .ok (.aload_n 0, 1) := by decide +kernel
theorem dL_areRoots_48 : decode cL_areRoots 48 = .ok (.bipush (-3), 2) := by decide +kernel
theorem dL_areRoots_50 : decode cL_areRoots 50 = .ok (.iconst 3, 1) := by decide +kernel
theorem dL_areRoots_51 : decode cL_areRoots 51 = .ok (.invokevirtual 52, 3) := by decide +kernel
theorem dL_areRoots_54 : decode cL_areRoots 54 = .ok (.iconst (-1), 1) := by decide +kernel
theorem dL_areRoots_55 : decode cL_areRoots 55 = .ok (.if_icmp .ne 34, 3) := by decide +kernel
theorem dL_areRoots_58 : decode cL_areRoots 58 = .ok (.aload_n 0, 1) := by decide +kernel
theorem dL_areRoots_59 : decode cL_areRoots 59 = .ok (.iconst 0, 1) := by decide +kernel
theorem dL_areRoots_60 : decode cL_areRoots 60 = .ok (.invokevirtual 55, 3) := by decide +kernel
theorem dL_areRoots_63 : decode cL_areRoots 63 = .ok (.iconst (-1), 1) := by decide +kernel
theorem dL_areRoots_64 : decode cL_areRoots 64 = .ok (.if_icmp .ne 25, 3) := by decide +kernel
theorem dL_areRoots_67 : decode cL_areRoots 67 = .ok (.aload_n 0, 1) := by decide +kernel
theorem dL_areRoots_68 : decode cL_areRoots 68 = .ok (.iconst 1, 1) := by decide +kernel
theorem dL_areRoots_69 : decode cL_areRoots 69 = .ok (.iconst 0, 1) := by decide +kernel
theorem dL_areRoots_70 : decode cL_areRoots 70 = .ok (.invokevirtual 58, 3) := by decide +kernel
theorem dL_areRoots_73 : decode cL_areRoots 73 = .ok (.ifCond .ne 16, 3) := by decide +kernel
theorem dL_areRoots_76 : decode cL_areRoots 76 = .ok (.aload_n 0, 1) := by decide +kernel
theorem dL_areRoots_77 : decode cL_areRoots 77 = .ok (.iconst 2, 1) := by decide +kernel
theorem dL_areRoots_78 : decode cL_areRoots 78 = .ok (.iconst 0, 1) := by decide +kernel
theorem dL_areRoots_79 : decode cL_areRoots 79 = .ok (.invokevirtual 58, 3) := by decide +kernel
theorem dL_areRoots_82 : decode cL_areRoots 82 = .ok (.ifCond .ne 7, 3) := by decide +kernel
theorem dL_areRoots_85 : decode cL_areRoots 85 = .ok (.iconst 1, 1) := by decide +kernel
theorem dL_areRoots_86 : decode cL_areRoots 86 = .ok (.goto 4, 3) := by decide +kernel
theorem dL_areRoots_89 : decode cL_areRoots 89 = .ok (.iconst 0, 1) := by decide +kernel
theorem dL_areRoots_90 : decode cL_areRoots 90 = .ok (.ireturn, 1) := by decide +kernel
theorem dL_areRoots_91 : decode cL_areRoots 91 = .ok (.iconst 0, 1) := by decide +kernel
theorem dL_areRoots_92 : decode cL_areRoots 92 = .ok (.istore 4, 2) := by decide +kernel
theorem dL_areRoots_94 : decode cL_areRoots 94 = .ok (.bipush (-20), 2) := by decide +kernel
theorem dL_areRoots_96 : decode cL_areRoots 96 = .ok (.istore 5, 2) := by decide +kernel
theorem dL_areRoots_98 : decode cL_areRoots 98 = .ok (.iload 5, 2) := by decide +kernel
theorem dL_areRoots_100 : decode cL_areRoots 100 = .ok (.bipush 20, 2) := by decide +kernel
theorem dL_areRoots_102 : decode cL_areRoots 102 = .ok (.if_icmp .ge 24, 3) := by decide +kernel
theorem dL_areRoots_105 : decode cL_areRoots 105 = .ok (.iload 4, 2) := by decide +kernel
theorem dL_areRoots_107 : decode cL_areRoots 107 = .ok (.aload_n 0, 1) := by decide +kernel
theorem dL_areRoots_108 : decode cL_areRoots 108 = .ok (.iload 5, 2) := by decide +kernel
theorem dL_areRoots_110 : decode cL_areRoots 110 = .ok (.iload 5, 2) := by decide +kernel
theorem dL_areRoots_112 : decode cL_areRoots 112 = .ok (.iconst 1, 1) := by decide +kernel
theorem dL_areRoots_113 : decode cL_areRoots 113 = .ok (.iadd, 1) := by decide +kernel
theorem dL_areRoots_114 : decode cL_areRoots 114 = .ok (.invokevirtual 42, 3) := by decide +kernel
theorem dL_areRoots_117 : decode cL_areRoots 117 = .ok (.iadd, 1) := by decide +kernel
theorem dL_areRoots_118 : decode cL_areRoots 118 = .ok (.istore 4, 2) := by decide +kernel
theorem dL_areRoots_120 : decode cL_areRoots 120 = .ok (.iinc 5 1, 3) := by decide +kernel
theorem dL_areRoots_123 : decode cL_areRoots 123 = .ok (.goto (-25), 3) := by decide +kernel
theorem dL_areRoots_126 : decode cL_areRoots 126 = .ok (.iload 4, 2) := by decide +kernel
theorem dL_areRoots_128 : decode cL_areRoots 128 = .ok (.aload_n 0, 1) := by decide +kernel
theorem dL_areRoots_129 : decode cL_areRoots 129 = .ok (.bipush (-20), 2) := by decide +kernel
theorem dL_areRoots_131 : decode cL_areRoots 131 = .ok (.bipush 20, 2) := by decide +kernel
theorem dL_areRoots_133 : decode cL_areRoots 133 = .ok (.invokevirtual 42, 3) := by decide +kernel
theorem dL_areRoots_136 : decode cL_areRoots 136 = .ok (.if_icmp .ne 38, 3) := by decide +kernel
theorem dL_areRoots_139 : decode cL_areRoots 139 = .ok (.iload 4, 2) := by decide +kernel
theorem dL_areRoots_141 : decode cL_areRoots 141 = .ok (.iload_n 3, 1) := by decide +kernel
theorem dL_areRoots_142 : decode cL_areRoots 142 = .ok (.if_icmp .gt 32, 3) := by decide +kernel
theorem dL_areRoots_145 : decode cL_areRoots 145 = .ok (.iload_n 3, 1) := by decide +kernel
theorem dL_areRoots_146 : decode cL_areRoots 146 = .ok (.aload_n 0, 1) := by decide +kernel
theorem dL_areRoots_147 : decode cL_areRoots 147 = .ok (.invokevirtual 46, 3) := by decide +kernel
theorem dL_areRoots_150 : decode cL_areRoots 150 = .ok (.if_icmp .gt 24, 3) := by decide +kernel
theorem dL_areRoots_153 : decode cL_areRoots 153 = .ok (.aload_n 0, 1) := by decide +kernel
theorem dL_areRoots_154 : decode cL_areRoots 154 = .ok (.iconst (-1), 1) := by decide +kernel
theorem dL_areRoots_155 : decode cL_areRoots 155 = .ok (.invokevirtual 61, 3) := by decide +kernel
theorem dL_areRoots_158 : decode cL_areRoots 158 = .ok (.aload_n 0, 1) := by decide +kernel
theorem dL_areRoots_159 : decode cL_areRoots 159 = .ok (.iconst 0, 1) := by decide +kernel
theorem dL_areRoots_160 : decode cL_areRoots 160 = .ok (.invokevirtual 61, 3) := by decide +kernel
theorem dL_areRoots_163 : decode cL_areRoots 163 = .ok (.iadd, 1) := by decide +kernel
theorem dL_areRoots_164 : decode cL_areRoots 164 = .ok (.aload_n 0, 1) := by decide +kernel
theorem dL_areRoots_165 : decode cL_areRoots 165 = .ok (.iconst 1, 1) := by decide +kernel
theorem dL_areRoots_166 : decode cL_areRoots 166 = .ok (.invokevirtual 61, 3) := by decide +kernel
theorem dL_areRoots_169 : decode cL_areRoots 169 = .ok (.iadd, 1) := by decide +kernel
theorem dL_areRoots_170 : decode cL_areRoots 170 = .ok (.iload_n 3, 1) := by decide +kernel
theorem dL_areRoots_171 : decode cL_areRoots 171 = .ok (.if_icmp .eq 5, 3) := by decide +kernel
theorem dL_areRoots_174 : decode cL_areRoots 174 = .ok (.iconst 0, 1) := by decide +kernel
theorem dL_areRoots_175 : decode cL_areRoots 175 = .ok (.ireturn, 1) := by decide +kernel
theorem dL_areRoots_176 : decode cL_areRoots 176 = .ok (.ldc 66, 2) := by decide +kernel
theorem dL_areRoots_178 : decode cL_areRoots 178 = .ok (.istore 5, 2) := by decide +kernel
theorem dL_areRoots_180 : decode cL_areRoots 180 = .ok (.iconst 0, 1) := by decide +kernel
theorem dL_areRoots_181 : decode cL_areRoots 181 = .ok (.istore 6, 2) := by decide +kernel
theorem dL_areRoots_183 : decode cL_areRoots 183 = .ok (.iload 6, 2) := by decide +kernel
theorem dL_areRoots_185 : decode cL_areRoots 185 = .ok (.iload_n 3, 1) := by decide +kernel
theorem dL_areRoots_186 : decode cL_areRoots 186 = .ok (.if_icmp .ge 195, 3) := by decide +kernel
theorem dL_areRoots_189 : decode cL_areRoots 189 = .ok (.aload_n 0, 1) := by decide +kernel
theorem dL_areRoots_190 : decode cL_areRoots 190 = .ok (.iload 6, 2) := by decide +kernel
theorem dL_areRoots_192 : decode cL_areRoots 192 = .ok (.bipush 6, 2) := by decide +kernel
theorem dL_areRoots_194 : decode cL_areRoots 194 = .ok (.invokevirtual 67, 3) := by decide +kernel
theorem dL_areRoots_197 : decode cL_areRoots 197 = .ok (.istore 7, 2) := by decide +kernel
theorem dL_areRoots_199 : decode cL_areRoots 199 = .ok (.iload 7, 2) := by decide +kernel
theorem dL_areRoots_201 : decode cL_areRoots 201 = .ok (.iload 5, 2) := by decide +kernel
theorem dL_areRoots_203 : decode cL_areRoots 203 = .ok (.if_icmp .lt 53, 3) := by decide +kernel
theorem dL_areRoots_206 : decode cL_areRoots 206 = .ok (.aload_n 0, 1) := by decide +kernel
theorem dL_areRoots_207 : decode cL_areRoots 207 = .ok (.iload 6, 2) := by decide +kernel
theorem dL_areRoots_209 : decode cL_areRoots 209 = .ok (.iconst 0, 1) := by decide +kernel
theorem dL_areRoots_210 : decode cL_areRoots 210 = .ok (.invokevirtual 67, 3) := by decide +kernel
theorem dL_areRoots_213 : decode cL_areRoots 213 = .ok (.iload 7, 2) := by decide +kernel
theorem dL_areRoots_215 : decode cL_areRoots 215 = .ok (.bipush 6, 2) := by decide +kernel
theorem dL_areRoots_217 : decode cL_areRoots 217 = .ok (.ishr, 1) := by decide +kernel
theorem dL_areRoots_218 : decode cL_areRoots 218 = .ok (.if_icmp .ne 38, 3) := by decide +kernel
theorem dL_areRoots_221 : decode cL_areRoots 221 = .ok (.aload_n 0, 1) := by decide +kernel
theorem dL_areRoots_222 : decode cL_areRoots 222 = .ok (.iload 6, 2) := by decide +kernel
theorem dL_areRoots_224 : decode cL_areRoots 224 = .ok (.iconst 3, 1) := by decide +kernel
theorem dL_areRoots_225 : decode cL_areRoots 225 = .ok (.invokevirtual 67, 3) := by decide +kernel
theorem dL_areRoots_228 : decode cL_areRoots 228 = .ok (.iload 7, 2) := by decide +kernel
theorem dL_areRoots_230 : decode cL_areRoots 230 = .ok (.iconst 3, 1) := by decide +kernel
theorem dL_areRoots_231 : decode cL_areRoots 231 = .ok (.ishr, 1) := by decide +kernel
theorem dL_areRoots_232 : decode cL_areRoots 232 = .ok (.if_icmp .ne 24, 3) := by decide +kernel
theorem dL_areRoots_235 : decode cL_areRoots 235 = .ok (.aload_n 0, 1) := by decide +kernel
theorem dL_areRoots_236 : decode cL_areRoots 236 = .ok (.iload 6, 2) := by decide +kernel
theorem dL_areRoots_238 : decode cL_areRoots 238 = .ok (.invokevirtual 70, 3) := by decide +kernel
theorem dL_areRoots_241 : decode cL_areRoots 241 = .ok (.iconst 2, 1) := by decide +kernel
theorem dL_areRoots_242 : decode cL_areRoots 242 = .ok (.iload 7, 2) := by decide +kernel
theorem dL_areRoots_244 : decode cL_areRoots 244 = .ok (.imul, 1) := by decide +kernel
theorem dL_areRoots_245 : decode cL_areRoots 245 = .ok (.iconst 1, 1) := by decide +kernel
theorem dL_areRoots_246 : decode cL_areRoots 246 = .ok (.iadd, 1) := by decide +kernel
theorem dL_areRoots_247 : decode cL_areRoots 247 = .ok (.i2d, 1) := by decide +kernel
theorem dL_areRoots_248 : decode cL_areRoots 248 = .ok (.ldc2_w 74, 3) := by decide +kernel
theorem dL_areRoots_251 : decode cL_areRoots 251 = .ok (.ddiv, 1) := by decide +kernel
theorem dL_areRoots_252 : decode cL_areRoots 252 = .ok (.dcmp .l, 1) := by decide +kernel
theorem dL_areRoots_253 : decode cL_areRoots 253 = .ok (.ifCond .eq 5, 3) := by decide +kernel
theorem dL_areRoots_256 : decode cL_areRoots 256 = .ok (.iconst 0, 1) := by decide +kernel
theorem dL_areRoots_257 : decode cL_areRoots 257 = .ok (.ireturn, 1) := by decide +kernel
theorem dL_areRoots_258 : decode cL_areRoots 258 = .ok (.iload 6, 2) := by decide +kernel
theorem dL_areRoots_260 : decode cL_areRoots 260 = .ok (.ifCond .eq 10, 3) := by decide +kernel
theorem dL_areRoots_263 : decode cL_areRoots 263 = .ok (.iload 5, 2) := by decide +kernel
theorem dL_areRoots_265 : decode cL_areRoots 265 = .ok (.iload 7, 2) := by decide +kernel
theorem dL_areRoots_267 : decode cL_areRoots 267 = .ok (.if_icmp .eq 30, 3) := by decide +kernel
theorem dL_areRoots_270 : decode cL_areRoots 270 = .ok (.iload 6, 2) := by decide +kernel
theorem dL_areRoots_272 : decode cL_areRoots 272 = .ok (.iload_n 3, 1) := by decide +kernel
theorem dL_areRoots_273 : decode cL_areRoots 273 = .ok (.iconst 1, 1) := by decide +kernel
theorem dL_areRoots_274 : decode cL_areRoots 274 = .ok (.isub, 1) := by decide +kernel
theorem dL_areRoots_275 : decode cL_areRoots 275 = .ok (.if_icmp .eq 18, 3) := by decide +kernel
theorem dL_areRoots_278 : decode cL_areRoots 278 = .ok (.aload_n 0, 1) := by decide +kernel
theorem dL_areRoots_279 : decode cL_areRoots 279 = .ok (.iload 6, 2) := by decide +kernel
theorem dL_areRoots_281 : decode cL_areRoots 281 = .ok (.iconst 1, 1) := by decide +kernel
theorem dL_areRoots_282 : decode cL_areRoots 282 = .ok (.iadd, 1) := by decide +kernel
theorem dL_areRoots_283 : decode cL_areRoots 283 = .ok (.bipush 6, 2) := by decide +kernel
theorem dL_areRoots_285 : decode cL_areRoots 285 = .ok (.invokevirtual 67, 3) := by decide +kernel
theorem dL_areRoots_288 : decode cL_areRoots 288 = .ok (.iload 7, 2) := by decide +kernel
theorem dL_areRoots_290 : decode cL_areRoots 290 = .ok (.if_icmp .eq 7, 3) := by decide +kernel
theorem dL_areRoots_293 : decode cL_areRoots 293 = .ok (.iconst 1, 1) := by decide +kernel
theorem dL_areRoots_294 : decode cL_areRoots 294 = .ok (.goto 4, 3) := by decide +kernel
theorem dL_areRoots_297 : decode cL_areRoots 297 = .ok (.iconst 0, 1) := by decide +kernel
theorem dL_areRoots_298 : decode cL_areRoots 298 = .ok (.istore 8, 2) := by decide +kernel
theorem dL_areRoots_300 : decode cL_areRoots 300 = .ok (.aload_n 1, 1) := by decide +kernel
theorem dL_areRoots_301 : decode cL_areRoots 301 = .ok (.iload 7, 2) := by decide +kernel
theorem dL_areRoots_303 : decode cL_areRoots 303 = .ok (.iconst 1, 1) := by decide +kernel
theorem dL_areRoots_304 : decode cL_areRoots 304 = .ok (.iadd, 1) := by decide +kernel
theorem dL_areRoots_305 : decode cL_areRoots 305 = .ok (.invokestatic 76, 3) := by decide +kernel
theorem dL_areRoots_308 : decode cL_areRoots 308 = .ok (.lstore 9, 2) := by decide +kernel
theorem dL_areRoots_310 : decode cL_areRoots 310 = .ok (.iload 8, 2) := by decide +kernel
theorem dL_areRoots_312 : decode cL_areRoots 312 = .ok (.ifCond .eq 59, 3) := by decide +kernel
theorem dL_areRoots_315 : decode cL_areRoots 315 = .ok (.lload 9, 2) := by decide +kernel
theorem dL_areRoots_317 : decode cL_areRoots 317 = .ok (.lconst 0, 1) := by decide +kernel
theorem dL_areRoots_318 : decode cL_areRoots 318 = .ok (.lcmp, 1) := by decide +kernel
theorem dL_areRoots_319 : decode cL_areRoots 319 = .ok (.ifCond .eq 52, 3) := by decide +kernel
theorem dL_areRoots_322 : decode cL_areRoots 322 = .ok (.aload_n 1, 1) := by decide +kernel
theorem dL_areRoots_323 : decode cL_areRoots 323 = .ok (.iload 7, 2) := by decide +kernel
theorem dL_areRoots_325 : decode cL_areRoots 325 = .ok (.invokestatic 76, 3) := by decide +kernel
theorem dL_areRoots_328 : decode cL_areRoots 328 = .ok (.lconst 0, 1) := by decide +kernel
theorem dL_areRoots_329 : decode cL_areRoots 329 = .ok (.lcmp, 1) := by decide +kernel
theorem dL_areRoots_330 : decode cL_areRoots 330 = .ok (.ifCond .eq 41, 3) := by decide +kernel
theorem dL_areRoots_333 : decode cL_areRoots 333 = .ok (.lload 9, 2) := by decide +kernel
theorem dL_areRoots_335 : decode cL_areRoots 335 = .ok (.invokestatic 82, 3) := by decide +kernel
theorem dL_areRoots_338 : decode cL_areRoots 338 = .ok (.aload_n 1, 1) := by decide +kernel
theorem dL_areRoots_339 : decode cL_areRoots 339 = .ok (.iload 7, 2) := by decide +kernel
theorem dL_areRoots_341 : decode cL_areRoots 341 = .ok (.invokestatic 76, 3) := by decide +kernel
theorem dL_areRoots_344 : decode cL_areRoots 344 = .ok (.invokestatic 82, 3) := by decide +kernel
theorem dL_areRoots_347 : decode cL_areRoots 347 = .ok (.if_icmp .ne 24, 3) := by decide +kernel
theorem dL_areRoots_350 : decode cL_areRoots 350 = .ok (.aload_n 0, 1) := by decide +kernel
theorem dL_areRoots_351 : decode cL_areRoots 351 = .ok (.bipush (-20), 2) := by decide +kernel
theorem dL_areRoots_353 : decode cL_areRoots 353 = .ok (.bipush 20, 2) := by decide +kernel
theorem dL_areRoots_355 : decode cL_areRoots 355 = .ok (.invokevirtual 52, 3) := by decide +kernel
theorem dL_areRoots_358 : decode cL_areRoots 358 = .ok (.ifCond .ne 13, 3) := by decide +kernel
theorem dL_areRoots_361 : decode cL_areRoots 361 = .ok (.iload_n 3, 1) := by decide +kernel
theorem dL_areRoots_362 : decode cL_areRoots 362 = .ok (.aload_n 0, 1) := by decide +kernel
theorem dL_areRoots_363 : decode cL_areRoots 363 = .ok (.invokevirtual 46, 3) := by decide +kernel
theorem dL_areRoots_366 : decode cL_areRoots 366 = .ok (.if_icmp .ne 5, 3) := by decide +kernel
theorem dL_areRoots_369 : decode cL_areRoots 369 = .ok (.iconst 0, 1) := by decide +kernel
theorem dL_areRoots_370 : decode cL_areRoots 370 = .ok (.ireturn, 1) := by decide +kernel
theorem dL_areRoots_371 : decode cL_areRoots 371 = .ok (.iload 7, 2) := by decide +kernel
theorem dL_areRoots_373 : decode cL_areRoots 373 = .ok (.istore 5, 2) := by decide +kernel
theorem dL_areRoots_375 : decode cL_areRoots 375 = .ok (.iinc 6 1, 3) := by decide +kernel
theorem dL_areRoots_378 : decode cL_areRoots 378 = .ok (.goto (-195), 3) := by decide +kernel
theorem dL_areRoots_381 : decode cL_areRoots 381 = .ok (.bipush (-20), 2) := by decide +kernel
theorem dL_areRoots_383 : decode cL_areRoots 383 = .ok (.istore 6, 2) := by decide +kernel
theorem dL_areRoots_385 : decode cL_areRoots 385 = .ok (.iload 6, 2) := by decide +kernel
theorem dL_areRoots_387 : decode cL_areRoots 387 = .ok (.bipush 20, 2) := by decide +kernel
theorem dL_areRoots_389 : decode cL_areRoots 389 = .ok (.if_icmp .gt 60, 3) := by decide +kernel
theorem dL_areRoots_392 : decode cL_areRoots 392 = .ok (.aload_n 0, 1) := by decide +kernel
theorem dL_areRoots_393 : decode cL_areRoots 393 = .ok (.iload 6, 2) := by decide +kernel
theorem dL_areRoots_395 : decode cL_areRoots 395 = .ok (.invokevirtual 86, 3) := by decide +kernel
theorem dL_areRoots_398 : decode cL_areRoots 398 = .ok (.aload_n 1, 1) := by decide +kernel
theorem dL_areRoots_399 : decode cL_areRoots 399 = .ok (.iload 6, 2) := by decide +kernel
theorem dL_areRoots_401 : decode cL_areRoots 401 = .ok (.invokevirtual 90, 3) := by decide +kernel
theorem dL_areRoots_404 : decode cL_areRoots 404 = .ok (.lcmp, 1) := by decide +kernel
theorem dL_areRoots_405 : decode cL_areRoots 405 = .ok (.ifCond .ne 36, 3) := by decide +kernel
theorem dL_areRoots_408 : decode cL_areRoots 408 = .ok (.aload_n 0, 1) := by decide +kernel
theorem dL_areRoots_409 : decode cL_areRoots 409 = .ok (.iload 6, 2) := by decide +kernel
theorem dL_areRoots_411 : decode cL_areRoots 411 = .ok (.invokevirtual 55, 3) := by decide +kernel
theorem dL_areRoots_414 : decode cL_areRoots 414 = .ok (.ifCond .le 7, 3) := by decide +kernel
theorem dL_areRoots_417 : decode cL_areRoots 417 = .ok (.iconst 1, 1) := by decide +kernel
theorem dL_areRoots_418 : decode cL_areRoots 418 = .ok (.goto 4, 3) := by decide +kernel
theorem dL_areRoots_421 : decode cL_areRoots 421 = .ok (.iconst 0, 1) := by decide +kernel
theorem dL_areRoots_422 : decode cL_areRoots 422 = .ok (.aload_n 1, 1) := by decide +kernel
theorem dL_areRoots_423 : decode cL_areRoots 423 = .ok (.iload 6, 2) := by decide +kernel
theorem dL_areRoots_425 : decode cL_areRoots 425 = .ok (.invokevirtual 90, 3) := by decide +kernel
theorem dL_areRoots_428 : decode cL_areRoots 428 = .ok (.lconst 0, 1) := by decide +kernel
theorem dL_areRoots_429 : decode cL_areRoots 429 = .ok (.lcmp, 1) := by decide +kernel
theorem dL_areRoots_430 : decode cL_areRoots 430 = .ok (.ifCond .ne 7, 3) := by decide +kernel
theorem dL_areRoots_433 : decode cL_areRoots 433 = .ok (.iconst 1, 1) := by decide +kernel
theorem dL_areRoots_434 : decode cL_areRoots 434 = .ok (.goto 4, 3) := by decide +kernel
theorem dL_areRoots_437 : decode cL_areRoots 437 = .ok (.iconst 0, 1) := by decide +kernel
theorem dL_areRoots_438 : decode cL_areRoots 438 = .ok (.if_icmp .eq 5, 3) := by decide +kernel
theorem dL_areRoots_441 : decode cL_areRoots 441 = .ok (.iconst 0, 1) := by decide +kernel
theorem dL_areRoots_442 : decode cL_areRoots 442 = .ok (.ireturn, 1) := by decide +kernel
theorem dL_areRoots_443 : decode cL_areRoots 443 = .ok (.iinc 6 1, 3) := by decide +kernel
theorem dL_areRoots_446 : decode cL_areRoots 446 = .ok (.goto (-61), 3) := by decide +kernel
theorem dL_areRoots_449 : decode cL_areRoots 449 = .ok (.aload_n 0, 1) := by decide +kernel
theorem dL_areRoots_450 : decode cL_areRoots 450 = .ok (.bipush (-4), 2) := by decide +kernel
theorem dL_areRoots_452 : decode cL_areRoots 452 = .ok (.bipush 7, 2) := by decide +kernel
theorem dL_areRoots_454 : decode cL_areRoots 454 = .ok (.invokevirtual 52, 3) := by decide +kernel
theorem dL_areRoots_457 : decode cL_areRoots 457 = .ok (.istore 6, 2) := by decide +kernel
theorem dL_areRoots_459 : decode cL_areRoots 459 = .ok (.iload 6, 2) := by decide +kernel
theorem dL_areRoots_461 : decode cL_areRoots 461 = .ok (.ifCond .lt 14, 3) := by decide +kernel
theorem dL_areRoots_464 : decode cL_areRoots 464 = .ok (.iload 6, 2) := by decide +kernel
theorem dL_areRoots_466 : decode cL_areRoots 466 = .ok (.iconst 2, 1) := by decide +kernel
theorem dL_areRoots_467 : decode cL_areRoots 467 = .ok (.irem, 1) := by decide +kernel
theorem dL_areRoots_468 : decode cL_areRoots 468 = .ok (.ifCond .ne 7, 3) := by decide +kernel
theorem dL_areRoots_471 : decode cL_areRoots 471 = .ok (.iconst 1, 1) := by decide +kernel
theorem dL_areRoots_472 : decode cL_areRoots 472 = .ok (.goto 4, 3) := by decide +kernel
theorem dL_areRoots_475 : decode cL_areRoots 475 = .ok (.iconst 0, 1) := by decide +kernel
theorem dL_areRoots_476 : decode cL_areRoots 476 = .ok (.ireturn, 1) := by decide +kernel
theorem dL_isBest_0 : decode cL_isBest 0 = .ok (.iconst (-1), 1) := by decide +kernel
theorem dL_isBest_1 : decode cL_isBest 1 = .ok (.istore_n 2, 1) := by decide +kernel
theorem dL_isBest_2 : decode cL_isBest 2 = .ok (.iconst 0, 1) := by decide +kernel
theorem dL_isBest_3 : decode cL_isBest 3 = .ok (.istore_n 3, 1) := by decide +kernel
theorem dL_isBest_4 : decode cL_isBest 4 = .ok (.aload_n 1, 1) := by decide +kernel
theorem dL_isBest_5 : decode cL_isBest 5 = .ok (.invokevirtual 91, 3) := by decide +kernel
theorem dL_isBest_8 : decode cL_isBest 8 = .ok (.istore 4, 2) := by decide +kernel
theorem dL_isBest_10 : decode cL_isBest 10 = .ok (.iconst 0, 1) := by decide +kernel
theorem dL_isBest_11 : decode cL_isBest 11 = .ok (.istore 5, 2) := by decide +kernel
theorem dL_isBest_13 : decode cL_isBest 13 = .ok (.iload 5, 2) := by decide +kernel
theorem dL_isBest_15 : decode cL_isBest 15 = .ok (.aload_n 1, 1) := by decide +kernel
theorem dL_isBest_16 : decode cL_isBest 16 = .ok (.getfield 27, 3) := by decide +kernel
theorem dL_isBest_19 : decode cL_isBest 19 = .ok (.arraylength, 1) := by decide +kernel
theorem dL_isBest_20 : decode cL_isBest 20 = .ok (.if_icmp .ge 124, 3) := by decide +kernel
theorem dL_isBest_23 : decode cL_isBest 23 = .ok (.bipush (-9), 2) := by decide +kernel
theorem dL_isBest_25 : decode cL_isBest 25 = .ok (.istore 6, 2) := by decide +kernel
theorem dL_isBest_27 : decode cL_isBest 27 = .ok (.iload 6, 2) := by decide +kernel
theorem dL_isBest_29 : decode cL_isBest 29 = .ok (.bipush 9, 2) := by decide +kernel
theorem dL_isBest_31 : decode cL_isBest 31 = .ok (.if_icmp .gt 107, 3) := by decide +kernel
theorem dL_isBest_34 : decode cL_isBest 34 = .ok (.iload 6, 2) := by decide +kernel
theorem dL_isBest_36 : decode cL_isBest 36 = .ok (.ifCond .ne 6, 3) := by decide +kernel
theorem dL_isBest_39 : decode cL_isBest 39 = .ok (.goto 93, 3) := by decide +kernel
theorem dL_isBest_42 : decode cL_isBest 42 = .ok (.aload_n 0, 1) := by decide +kernel
theorem dL_isBest_43 : decode cL_isBest 43 = .ok (.iload 6, 2) := by decide +kernel
theorem dL_isBest_45 : decode cL_isBest 45 = .ok (.iload 5, 2) := by decide +kernel
theorem dL_isBest_47 : decode cL_isBest 47 = .ok (.invokevirtual 94, 3) := by decide +kernel
theorem dL_isBest_50 : decode cL_isBest 50 = .ok (.aload_n 1, 1) := by decide +kernel
theorem dL_isBest_51 : decode cL_isBest 51 = .ok (.iload 6, 2) := by decide +kernel
theorem dL_isBest_53 : decode cL_isBest 53 = .ok (.iload 5, 2) := by decide +kernel
theorem dL_isBest_55 : decode cL_isBest 55 = .ok (.invokevirtual 97, 3) := by decide +kernel
theorem dL_isBest_58 : decode cL_isBest 58 = .ok (.if_icmp .eq 5, 3) := by decide +kernel
theorem dL_isBest_61 : decode cL_isBest 61 = .ok (.iconst 0, 1) := by decide +kernel
theorem dL_isBest_62 : decode cL_isBest 62 = .ok (.ireturn, 1) := by decide +kernel
theorem dL_isBest_63 : decode cL_isBest 63 = .ok (.aload_n 1, 1) := by decide +kernel
theorem dL_isBest_64 : decode cL_isBest 64 = .ok (.iload 6, 2) := by decide +kernel
theorem dL_isBest_66 : decode cL_isBest 66 = .ok (.iload 5, 2) := by decide +kernel
theorem dL_isBest_68 : decode cL_isBest 68 = .ok (.invokevirtual 97, 3) := by decide +kernel
theorem dL_isBest_71 : decode cL_isBest 71 = .ok (.ifCond .le 6, 3) := by decide +kernel
theorem dL_isBest_74 : decode cL_isBest 74 = .ok (.goto 58, 3) := by decide +kernel
theorem dL_isBest_77 : decode cL_isBest 77 = .ok (.aload_n 0, 1) := by decide +kernel
theorem dL_isBest_78 : decode cL_isBest 78 = .ok (.iload 6, 2) := by decide +kernel
theorem dL_isBest_80 : decode cL_isBest 80 = .ok (.iload 5, 2) := by decide +kernel
theorem dL_isBest_82 : decode cL_isBest 82 = .ok (.iconst 1, 1) := by decide +kernel
theorem dL_isBest_83 : decode cL_isBest 83 = .ok (.iload 4, 2) := by decide +kernel
theorem dL_isBest_85 : decode cL_isBest 85 = .ok (.iadd, 1) := by decide +kernel
theorem dL_isBest_86 : decode cL_isBest 86 = .ok (.invokevirtual 100, 3) := by decide +kernel
theorem dL_isBest_89 : decode cL_isBest 89 = .ok (.aload_n 0, 1) := by decide +kernel
theorem dL_isBest_90 : decode cL_isBest 90 = .ok (.iload 6, 2) := by decide +kernel
theorem dL_isBest_92 : decode cL_isBest 92 = .ok (.iload 5, 2) := by decide +kernel
theorem dL_isBest_94 : decode cL_isBest 94 = .ok (.iconst 2, 1) := by decide +kernel
theorem dL_isBest_95 : decode cL_isBest 95 = .ok (.iload 4, 2) := by decide +kernel
theorem dL_isBest_97 : decode cL_isBest 97 = .ok (.isub, 1) := by decide +kernel
theorem dL_isBest_98 : decode cL_isBest 98 = .ok (.invokevirtual 100, 3) := by decide +kernel
theorem dL_isBest_101 : decode cL_isBest 101 = .ok (.isub, 1) := by decide +kernel
theorem dL_isBest_102 : decode cL_isBest 102 = .ok (.istore 7, 2) := by decide +kernel
theorem dL_isBest_104 : decode cL_isBest 104 = .ok (.iload_n 2, 1) := by decide +kernel
theorem dL_isBest_105 : decode cL_isBest 105 = .ok (.ifCond .lt 12, 3) := by decide +kernel
theorem dL_isBest_108 : decode cL_isBest 108 = .ok (.iload 7, 2) := by decide +kernel
theorem dL_isBest_110 : decode cL_isBest 110 = .ok (.iload_n 3, 1) := by decide +kernel
theorem dL_isBest_111 : decode cL_isBest 111 = .ok (.if_icmp .gt 6, 3) := by decide +kernel
theorem dL_isBest_114 : decode cL_isBest 114 = .ok (.goto 18, 3) := by decide +kernel
theorem dL_isBest_117 : decode cL_isBest 117 = .ok (.bipush 20, 2) := by decide +kernel
theorem dL_isBest_119 : decode cL_isBest 119 = .ok (.iload 5, 2) := by decide +kernel
theorem dL_isBest_121 : decode cL_isBest 121 = .ok (.imul, 1) := by decide +kernel
theorem dL_isBest_122 : decode cL_isBest 122 = .ok (.iload 6, 2) := by decide +kernel
theorem dL_isBest_124 : decode cL_isBest 124 = .ok (.iadd, 1) := by decide +kernel
theorem dL_isBest_125 : decode cL_isBest 125 = .ok (.bipush 10, 2) := by decide +kernel
theorem dL_isBest_127 : decode cL_isBest 127 = .ok (.iadd, 1) := by decide +kernel
theorem dL_isBest_128 : decode cL_isBest 128 = .ok (.istore_n 2, 1) := by decide +kernel
theorem dL_isBest_129 : decode cL_isBest 129 = .ok (.iload 7, 2) := by decide +kernel
theorem dL_isBest_131 : decode cL_isBest 131 = .ok (.istore_n 3, 1) := by decide +kernel
theorem dL_isBest_132 : decode cL_isBest 132 = .ok (.iinc 6 1, 3) := by decide +kernel
theorem dL_isBest_135 : decode cL_isBest 135 = .ok (.goto (-108), 3) := by decide +kernel
theorem dL_isBest_138 : decode cL_isBest 138 = .ok (.iinc 5 1, 3) := by decide +kernel
theorem dL_isBest_141 : decode cL_isBest 141 = .ok (.goto (-128), 3) := by decide +kernel
theorem dL_isBest_144 : decode cL_isBest 144 = .ok (.aload_n 0, 1) := by decide +kernel
theorem dL_isBest_145 : decode cL_isBest 145 = .ok (.invokevirtual 104, 3) := by decide +kernel
theorem dL_isBest_148 : decode cL_isBest 148 = .ok (.iload_n 2, 1) := by decide +kernel
theorem dL_isBest_149 : decode cL_isBest 149 = .ok (.if_icmp .ne 7, 3) := by decide +kernel
theorem dL_isBest_152 : decode cL_isBest 152 = .ok (.iconst 1, 1) := by decide +kernel
theorem dL_isBest_153 : decode cL_isBest 153 = .ok (.goto 4, 3) := by decide +kernel
theorem dL_isBest_156 : decode cL_isBest 156 = .ok (.iconst 0, 1) := by decide +kernel
theorem dL_isBest_157 : decode cL_isBest 157 = .ok (.ireturn, 1) := by decide +kernel
theorem dL_law_0 : decode cL_law 0 = .ok (.new 107, 3) := by decide +kernel
theorem dL_law_3 : decode cL_law 3 = .ok (.dup, 1) := by decide +kernel
theorem dL_law_4 : decode cL_law 4 = .ok (.aload_n 0, 1) := by decide +kernel
theorem dL_law_5 : decode cL_law 5 = .ok (.invokespecial 109, 3) := by decide +kernel
theorem dL_law_8 : decode cL_law 8 = .ok (.astore_n 1, 1) := by decide +kernel
theorem dL_law_9 : decode cL_law 9 = .ok (.new 9, 3) := by decide +kernel
theorem dL_law_12 : decode cL_law 12 = .ok (.dup, 1) := by decide +kernel
theorem dL_law_13 : decode cL_law 13 = .ok (.invokespecial 112, 3) := by decide +kernel
theorem dL_law_16 : decode cL_law 16 = .ok (.astore_n 2, 1) := by decide +kernel
theorem dL_law_17 : decode cL_law 17 = .ok (.iconst 2, 1) := by decide +kernel
theorem dL_law_18 : decode cL_law 18 = .ok (.aload_n 1, 1) := by decide +kernel
theorem dL_law_19 : decode cL_law 19 = .ok (.iconst 4, 1) := by decide +kernel
theorem dL_law_20 : decode cL_law 20 = .ok (.invokevirtual 113, 3) := by decide +kernel
theorem dL_law_23 : decode cL_law 23 = .ok (.iadd, 1) := by decide +kernel
theorem dL_law_24 : decode cL_law 24 = .ok (.istore_n 3, 1) := by decide +kernel
theorem dL_law_25 : decode cL_law 25 = .ok (.aload_n 1, 1) := by decide +kernel
theorem dL_law_26 : decode cL_law 26 = .ok (.aload_n 1, 1) := by decide +kernel
theorem dL_law_27 : decode cL_law 27 = .ok (.iconst 2, 1) := by decide +kernel
theorem dL_law_28 : decode cL_law 28 = .ok (.invokevirtual 113, 3) := by decide +kernel
theorem dL_law_31 : decode cL_law 31 = .ok (.ifCond .ne 7, 3) := by decide +kernel
theorem dL_law_34 : decode cL_law 34 = .ok (.iconst 3, 1) := by decide +kernel
theorem dL_law_35 : decode cL_law 35 = .ok (.goto 5, 3) := by decide +kernel
theorem dL_law_38 : decode cL_law 38 = .ok (.bipush 10, 2) := by decide +kernel
theorem dL_law_40 : decode cL_law 40 = .ok (.invokevirtual 113, 3) := by decide +kernel
theorem dL_law_43 : decode cL_law 43 = .ok (.istore 4, 2) := by decide +kernel
theorem dL_law_45 : decode cL_law 45 = .ok (.iconst 1, 1) := by decide +kernel
theorem dL_law_46 : decode cL_law 46 = .ok (.aload_n 1, 1) := by decide +kernel
theorem dL_law_47 : decode cL_law 47 = .ok (.bipush 14, 2) := by decide +kernel
theorem dL_law_49 : decode cL_law 49 = .ok (.invokevirtual 113, 3) := by decide +kernel
theorem dL_law_52 : decode cL_law 52 = .ok (.iadd, 1) := by decide +kernel
theorem dL_law_53 : decode cL_law 53 = .ok (.istore 5, 2) := by decide +kernel
theorem dL_law_55 : decode cL_law 55 = .ok (.iconst 1, 1) := by decide +kernel
theorem dL_law_56 : decode cL_law 56 = .ok (.aload_n 1, 1) := by decide +kernel
theorem dL_law_57 : decode cL_law 57 = .ok (.bipush 20, 2) := by decide +kernel
theorem dL_law_59 : decode cL_law 59 = .ok (.invokevirtual 113, 3) := by decide +kernel
theorem dL_law_62 : decode cL_law 62 = .ok (.iadd, 1) := by decide +kernel
theorem dL_law_63 : decode cL_law 63 = .ok (.istore 6, 2) := by decide +kernel
theorem dL_law_65 : decode cL_law 65 = .ok (.aload_n 1, 1) := by decide +kernel
theorem dL_law_66 : decode cL_law 66 = .ok (.iconst 3, 1) := by decide +kernel
theorem dL_law_67 : decode cL_law 67 = .ok (.invokevirtual 113, 3) := by decide +kernel
theorem dL_law_70 : decode cL_law 70 = .ok (.ifCond .ne 13, 3) := by decide +kernel
theorem dL_law_73 : decode cL_law 73 = .ok (.iconst 1, 1) := by decide +kernel
theorem dL_law_74 : decode cL_law 74 = .ok (.aload_n 1, 1) := by decide +kernel
theorem dL_law_75 : decode cL_law 75 = .ok (.iconst 4, 1) := by decide +kernel
theorem dL_law_76 : decode cL_law 76 = .ok (.invokevirtual 113, 3) := by decide +kernel
theorem dL_law_79 : decode cL_law 79 = .ok (.iadd, 1) := by decide +kernel
theorem dL_law_80 : decode cL_law 80 = .ok (.goto 4, 3) := by decide +kernel
theorem dL_law_83 : decode cL_law 83 = .ok (.iconst 0, 1) := by decide +kernel
theorem dL_law_84 : decode cL_law 84 = .ok (.istore 7, 2) := by decide +kernel
theorem dL_law_86 : decode cL_law 86 = .ok (.aload_n 1, 1) := by decide +kernel
theorem dL_law_87 : decode cL_law 87 = .ok (.bipush 21, 2) := by decide +kernel
theorem dL_law_89 : decode cL_law 89 = .ok (.invokevirtual 113, 3) := by decide +kernel
theorem dL_law_92 : decode cL_law 92 = .ok (.istore 8, 2) := by decide +kernel
theorem dL_law_94 : decode cL_law 94 = .ok (.iconst 1, 1) := by decide +kernel
theorem dL_law_95 : decode cL_law 95 = .ok (.aload_n 1, 1) := by decide +kernel
theorem dL_law_96 : decode cL_law 96 = .ok (.bipush 40, 2) := by decide +kernel
theorem dL_law_98 : decode cL_law 98 = .ok (.invokevirtual 113, 3) := by decide +kernel
theorem dL_law_101 : decode cL_law 101 = .ok (.iadd, 1) := by decide +kernel
theorem dL_law_102 : decode cL_law 102 = .ok (.istore 9, 2) := by decide +kernel
theorem dL_law_104 : decode cL_law 104 = .ok (.new 28, 3) := by decide +kernel
theorem dL_law_107 : decode cL_law 107 = .ok (.dup, 1) := by decide +kernel
theorem dL_law_108 : decode cL_law 108 = .ok (.bipush 7, 2) := by decide +kernel
theorem dL_law_110 : decode cL_law 110 = .ok (.newarray .int, 2) := by decide +kernel
theorem dL_law_112 : decode cL_law 112 = .ok (.dup, 1) := by decide +kernel
theorem dL_law_113 : decode cL_law 113 = .ok (.iconst 0, 1) := by decide +kernel
theorem dL_law_114 : decode cL_law 114 = .ok (.iload_n 3, 1) := by decide +kernel
theorem dL_law_115 : decode cL_law 115 = .ok (.iastore, 1) := by decide +kernel
theorem dL_law_116 : decode cL_law 116 = .ok (.dup, 1) := by decide +kernel
theorem dL_law_117 : decode cL_law 117 = .ok (.iconst 1, 1) := by decide +kernel
theorem dL_law_118 : decode cL_law 118 = .ok (.iload 4, 2) := by decide +kernel
theorem dL_law_120 : decode cL_law 120 = .ok (.iastore, 1) := by decide +kernel
theorem dL_law_121 : decode cL_law 121 = .ok (.dup, 1) := by decide +kernel
theorem dL_law_122 : decode cL_law 122 = .ok (.iconst 2, 1) := by decide +kernel
theorem dL_law_123 : decode cL_law 123 = .ok (.iload 5, 2) := by decide +kernel
theorem dL_law_125 : decode cL_law 125 = .ok (.iastore, 1) := by decide +kernel
theorem dL_law_126 : decode cL_law 126 = .ok (.dup, 1) := by decide +kernel
theorem dL_law_127 : decode cL_law 127 = .ok (.iconst 3, 1) := by decide +kernel
theorem dL_law_128 : decode cL_law 128 = .ok (.iload 6, 2) := by decide +kernel
theorem dL_law_130 : decode cL_law 130 = .ok (.iastore, 1) := by decide +kernel
theorem dL_law_131 : decode cL_law 131 = .ok (.dup, 1) := by decide +kernel
theorem dL_law_132 : decode cL_law 132 = .ok (.iconst 4, 1) := by decide +kernel
theorem dL_law_133 : decode cL_law 133 = .ok (.iload 7, 2) := by decide +kernel
theorem dL_law_135 : decode cL_law 135 = .ok (.iastore, 1) := by decide +kernel
theorem dL_law_136 : decode cL_law 136 = .ok (.dup, 1) := by decide +kernel
theorem dL_law_137 : decode cL_law 137 = .ok (.iconst 5, 1) := by decide +kernel
theorem dL_law_138 : decode cL_law 138 = .ok (.iload 8, 2) := by decide +kernel
theorem dL_law_140 : decode cL_law 140 = .ok (.iastore, 1) := by decide +kernel
theorem dL_law_141 : decode cL_law 141 = .ok (.dup, 1) := by decide +kernel
theorem dL_law_142 : decode cL_law 142 = .ok (.bipush 6, 2) := by decide +kernel
theorem dL_law_144 : decode cL_law 144 = .ok (.iload 9, 2) := by decide +kernel
theorem dL_law_146 : decode cL_law 146 = .ok (.iastore, 1) := by decide +kernel
theorem dL_law_147 : decode cL_law 147 = .ok (.invokespecial 116, 3) := by decide +kernel
theorem dL_law_150 : decode cL_law 150 = .ok (.astore 10, 2) := by decide +kernel
theorem dL_law_152 : decode cL_law 152 = .ok (.new 117, 3) := by decide +kernel
theorem dL_law_155 : decode cL_law 155 = .ok (.dup, 1) := by decide +kernel
theorem dL_law_156 : decode cL_law 156 = .ok (.new 117, 3) := by decide +kernel
theorem dL_law_159 : decode cL_law 159 = .ok (.dup, 1) := by decide +kernel
theorem dL_law_160 : decode cL_law 160 = .ok (.invokespecial 119, 3) := by decide +kernel
theorem dL_law_163 : decode cL_law 163 = .ok (.ldc 120, 2) := by decide +kernel
theorem dL_law_165 : decode cL_law 165 = .ok (.invokevirtual 122, 3) := by decide +kernel
theorem dL_law_168 : decode cL_law 168 = .ok (.iload_n 3, 1) := by decide +kernel
theorem dL_law_169 : decode cL_law 169 = .ok (.invokevirtual 126, 3) := by decide +kernel
theorem dL_law_172 : decode cL_law 172 = .ok (.ldc 129, 2) := by decide +kernel
theorem dL_law_174 : decode cL_law 174 = .ok (.invokevirtual 122, 3) := by decide +kernel
theorem dL_law_177 : decode cL_law 177 = .ok (.iload 4, 2) := by decide +kernel
theorem dL_law_179 : decode cL_law 179 = .ok (.invokevirtual 126, 3) := by decide +kernel
theorem dL_law_182 : decode cL_law 182 = .ok (.ldc 131, 2) := by decide +kernel
theorem dL_law_184 : decode cL_law 184 = .ok (.invokevirtual 122, 3) := by decide +kernel
theorem dL_law_187 : decode cL_law 187 = .ok (.iload 5, 2) := by decide +kernel
theorem dL_law_189 : decode cL_law 189 = .ok (.invokevirtual 126, 3) := by decide +kernel
theorem dL_law_192 : decode cL_law 192 = .ok (.ldc 133, 2) := by decide +kernel
theorem dL_law_194 : decode cL_law 194 = .ok (.invokevirtual 122, 3) := by decide +kernel
theorem dL_law_197 : decode cL_law 197 = .ok (.iload 6, 2) := by decide +kernel
theorem dL_law_199 : decode cL_law 199 = .ok (.invokevirtual 126, 3) := by decide +kernel
theorem dL_law_202 : decode cL_law 202 = .ok (.ldc 135, 2) := by decide +kernel
theorem dL_law_204 : decode cL_law 204 = .ok (.invokevirtual 122, 3) := by decide +kernel
theorem dL_law_207 : decode cL_law 207 = .ok (.iload 7, 2) := by decide +kernel
theorem dL_law_209 : decode cL_law 209 = .ok (.invokevirtual 126, 3) := by decide +kernel
theorem dL_law_212 : decode cL_law 212 = .ok (.ldc 137, 2) := by decide +kernel
theorem dL_law_214 : decode cL_law 214 = .ok (.invokevirtual 122, 3) := by decide +kernel
theorem dL_law_217 : decode cL_law 217 = .ok (.iload 8, 2) := by decide +kernel
theorem dL_law_219 : decode cL_law 219 = .ok (.invokevirtual 126, 3) := by decide +kernel
theorem dL_law_222 : decode cL_law 222 = .ok (.ldc 139, 2) := by decide +kernel
theorem dL_law_224 : decode cL_law 224 = .ok (.invokevirtual 122, 3) := by decide +kernel
theorem dL_law_227 : decode cL_law 227 = .ok (.iload 9, 2) := by decide +kernel
theorem dL_law_229 : decode cL_law 229 = .ok (.invokevirtual 126, 3) := by decide +kernel
theorem dL_law_232 : decode cL_law 232 = .ok (.ldc 141, 2) := by decide +kernel
theorem dL_law_234 : decode cL_law 234 = .ok (.invokevirtual 122, 3) := by decide +kernel
theorem dL_law_237 : decode cL_law 237 = .ok (.invokevirtual 143, 3) := by decide +kernel
theorem dL_law_240 : decode cL_law 240 = .ok (.invokespecial 147, 3) := by decide +kernel
theorem dL_law_243 : decode cL_law 243 = .ok (.astore 11, 2) := by decide +kernel
theorem dL_law_245 : decode cL_law 245 = .ok (.aload_n 1, 1) := by decide +kernel
theorem dL_law_246 : decode cL_law 246 = .ok (.iload_n 3, 1) := by decide +kernel
theorem dL_law_247 : decode cL_law 247 = .ok (.iconst 1, 1) := by decide +kernel
theorem dL_law_248 : decode cL_law 248 = .ok (.iadd, 1) := by decide +kernel
theorem dL_law_249 : decode cL_law 249 = .ok (.invokevirtual 113, 3) := by decide +kernel
theorem dL_law_252 : decode cL_law 252 = .ok (.istore 12, 2) := by decide +kernel
theorem dL_law_254 : decode cL_law 254 = .ok (.iconst 0, 1) := by decide +kernel
theorem dL_law_255 : decode cL_law 255 = .ok (.istore 13, 2) := by decide +kernel
theorem dL_law_257 : decode cL_law 257 = .ok (.iload 13, 2) := by decide +kernel
theorem dL_law_259 : decode cL_law 259 = .ok (.iload 12, 2) := by decide +kernel
theorem dL_law_261 : decode cL_law 261 = .ok (.if_icmp .ge 60, 3) := by decide +kernel
theorem dL_law_264 : decode cL_law 264 = .ok (.aload 10, 2) := by decide +kernel
theorem dL_law_266 : decode cL_law 266 = .ok (.getfield 27, 3) := by decide +kernel
theorem dL_law_269 : decode cL_law 269 = .ok (.iload 13, 2) := by decide +kernel
theorem dL_law_271 : decode cL_law 271 = .ok (.aload_n 1, 1) := by decide +kernel
theorem dL_law_272 : decode cL_law 272 = .ok (.bipush 61, 2) := by decide +kernel
theorem dL_law_274 : decode cL_law 274 = .ok (.invokevirtual 113, 3) := by decide +kernel
theorem dL_law_277 : decode cL_law 277 = .ok (.bipush 30, 2) := by decide +kernel
theorem dL_law_279 : decode cL_law 279 = .ok (.isub, 1) := by decide +kernel
theorem dL_law_280 : decode cL_law 280 = .ok (.iastore, 1) := by decide +kernel
theorem dL_law_281 : decode cL_law 281 = .ok (.aload 11, 2) := by decide +kernel
theorem dL_law_283 : decode cL_law 283 = .ok (.ldc 150, 2) := by decide +kernel
theorem dL_law_285 : decode cL_law 285 = .ok (.invokevirtual 122, 3) := by decide +kernel
theorem dL_law_288 : decode cL_law 288 = .ok (.aload 10, 2) := by decide +kernel
theorem dL_law_290 : decode cL_law 290 = .ok (.getfield 27, 3) := by decide +kernel
theorem dL_law_293 : decode cL_law 293 = .ok (.iload 13, 2) := by decide +kernel
theorem dL_law_295 : decode cL_law 295 = .ok (.iaload, 1) := by decide +kernel
theorem dL_law_296 : decode cL_law 296 = .ok (.invokevirtual 126, 3) := by decide +kernel
theorem dL_law_299 : decode cL_law 299 = .ok (.bipush 32, 2) := by decide +kernel
theorem dL_law_301 : decode cL_law 301 = .ok (.invokevirtual 152, 3) := by decide +kernel
theorem dL_law_304 : decode cL_law 304 = .ok (.iload 13, 2) := by decide +kernel
theorem dL_law_306 : decode cL_law 306 = .ok (.invokevirtual 126, 3) := by decide +kernel
theorem dL_law_309 : decode cL_law 309 = .ok (.bipush 59, 2) := by decide +kernel
theorem dL_law_311 : decode cL_law 311 = .ok (.invokevirtual 152, 3) := by decide +kernel
theorem dL_law_314 : decode cL_law 314 = .ok (.pop, 1) := by decide +kernel
theorem dL_law_315 : decode cL_law 315 = .ok (.iinc 13 1, 3) := by decide +kernel
theorem dL_law_318 : decode cL_law 318 = .ok (.goto (-61), 3) := by decide +kernel
theorem dL_law_321 : decode cL_law 321 = .ok (.aload_n 2, 1) := by decide +kernel
theorem dL_law_322 : decode cL_law 322 = .ok (.aload 11, 2) := by decide +kernel
theorem dL_law_324 : decode cL_law 324 = .ok (.invokevirtual 143, 3) := by decide +kernel
theorem dL_law_327 : decode cL_law 327 = .ok (.invokestatic 155, 3) := by decide +kernel
theorem dL_law_330 : decode cL_law 330 = .ok (.aload_n 2, 1) := by decide +kernel
theorem dL_law_331 : decode cL_law 331 = .ok (.invokevirtual 159, 3) := by decide +kernel
theorem dL_law_334 : decode cL_law 334 = .ok (.bipush 6, 2) := by decide +kernel
theorem dL_law_336 : decode cL_law 336 = .ok (.iload 12, 2) := by decide +kernel
theorem dL_law_338 : decode cL_law 338 = .ok (.iadd, 1) := by decide +kernel
theorem dL_law_339 : decode cL_law 339 = .ok (.if_icmp .ne 12, 3) := by decide +kernel
theorem dL_law_342 : decode cL_law 342 = .ok (.aload_n 2, 1) := by decide +kernel
theorem dL_law_343 : decode cL_law 343 = .ok (.aload 10, 2) := by decide +kernel
theorem dL_law_345 : decode cL_law 345 = .ok (.invokestatic 162, 3) := by decide +kernel
theorem dL_law_348 : decode cL_law 348 = .ok (.ifCond .ne 5, 3) := by decide +kernel
theorem dL_law_351 : decode cL_law 351 = .ok (.iconst 0, 1) := by decide +kernel
theorem dL_law_352 : decode cL_law 352 = .ok (.ireturn, 1) := by decide +kernel
theorem dL_law_353 : decode cL_law 353 = .ok (.iconst 3, 1) := by decide +kernel
theorem dL_law_354 : decode cL_law 354 = .ok (.aload_n 1, 1) := by decide +kernel
theorem dL_law_355 : decode cL_law 355 = .ok (.bipush 20, 2) := by decide +kernel
theorem dL_law_357 : decode cL_law 357 = .ok (.invokevirtual 113, 3) := by decide +kernel
theorem dL_law_360 : decode cL_law 360 = .ok (.iadd, 1) := by decide +kernel
theorem dL_law_361 : decode cL_law 361 = .ok (.istore 13, 2) := by decide +kernel
theorem dL_law_363 : decode cL_law 363 = .ok (.iload 13, 2) := by decide +kernel
theorem dL_law_365 : decode cL_law 365 = .ok (.ifCond .le 635, 3) := by decide +kernel
theorem dL_law_368 : decode cL_law 368 = .ok (.aload_n 1, 1) := by decide +kernel
theorem dL_law_369 : decode cL_law 369 = .ok (.bipush 8, 2) := by decide +kernel
theorem dL_law_371 : decode cL_law 371 = .ok (.invokevirtual 113, 3) := by decide +kernel
theorem dL_law_374 : decode cL_law 374 = .ok (.istore 14, 2) := by decide +kernel
theorem dL_law_376 : decode cL_law 376 = .ok (.iload 14, 2) := by decide +kernel
theorem dL_law_378 : decode cL_law 378 = .ok (.iconst 2, 1) := by decide +kernel
theorem dL_law_379 : decode cL_law 379 = .ok (.if_icmp .ge 146, 3) := by decide +kernel
theorem dL_law_382 : decode cL_law 382 = .ok (.aload_n 1, 1) := by decide +kernel
theorem dL_law_383 : decode cL_law 383 = .ok (.bipush 40, 2) := by decide +kernel
theorem dL_law_385 : decode cL_law 385 = .ok (.invokevirtual 113, 3) := by decide +kernel
theorem dL_law_388 : decode cL_law 388 = .ok (.bipush 20, 2) := by decide +kernel
theorem dL_law_390 : decode cL_law 390 = .ok (.isub, 1) := by decide +kernel
theorem dL_law_391 : decode cL_law 391 = .ok (.istore 15, 2) := by decide +kernel
theorem dL_law_393 : decode cL_law 393 = .ok (.new 166, 3) := by decide +kernel
theorem dL_law_396 : decode cL_law 396 = .ok (.dup, 1) := by decide +kernel
theorem dL_law_397 : decode cL_law 397 = .ok (.iload 15, 2) := by decide +kernel
theorem dL_law_399 : decode cL_law 399 = .ok (.iload 15, 2) := by decide +kernel
theorem dL_law_401 : decode cL_law 401 = .ok (.iconst 1, 1) := by decide +kernel
theorem dL_law_402 : decode cL_law 402 = .ok (.iadd, 1) := by decide +kernel
theorem dL_law_403 : decode cL_law 403 = .ok (.aload_n 1, 1) := by decide +kernel
theorem dL_law_404 : decode cL_law 404 = .ok (.bipush 20, 2) := by decide +kernel
theorem dL_law_406 : decode cL_law 406 = .ok (.iload 15, 2) := by decide +kernel
theorem dL_law_408 : decode cL_law 408 = .ok (.isub, 1) := by decide +kernel
theorem dL_law_409 : decode cL_law 409 = .ok (.invokevirtual 113, 3) := by decide +kernel
theorem dL_law_412 : decode cL_law 412 = .ok (.iadd, 1) := by decide +kernel
theorem dL_law_413 : decode cL_law 413 = .ok (.aload_n 1, 1) := by decide +kernel
theorem dL_law_414 : decode cL_law 414 = .ok (.iconst 5, 1) := by decide +kernel
theorem dL_law_415 : decode cL_law 415 = .ok (.invokevirtual 113, 3) := by decide +kernel
theorem dL_law_418 : decode cL_law 418 = .ok (.aload_n 1, 1) := by decide +kernel
theorem dL_law_419 : decode cL_law 419 = .ok (.iconst 2, 1) := by decide +kernel
theorem dL_law_420 : decode cL_law 420 = .ok (.invokevirtual 113, 3) := by decide +kernel
theorem dL_law_423 : decode cL_law 423 = .ok (.ifCond .ne 7, 3) := by decide +kernel
theorem dL_law_426 : decode cL_law 426 = .ok (.iconst 1, 1) := by decide +kernel
theorem dL_law_427 : decode cL_law 427 = .ok (.goto 4, 3) := by decide +kernel
theorem dL_law_430 : decode cL_law 430 = .ok (.iconst 0, 1) := by decide +kernel
theorem dL_law_431 : decode cL_law 431 = .ok (.iconst 1, 1) := by decide +kernel
theorem dL_law_432 : decode cL_law 432 = .ok (.aload_n 1, 1) := by decide +kernel
theorem dL_law_433 : decode cL_law 433 = .ok (.bipush 9, 2) := by decide +kernel
theorem dL_law_435 : decode cL_law 435 = .ok (.invokevirtual 113, 3) := by decide +kernel
theorem dL_law_438 : decode cL_law 438 = .ok (.iadd, 1) := by decide +kernel
theorem dL_law_439 : decode cL_law 439 = .ok (.invokespecial 168, 3) := by decide +kernel
theorem dL_law_442 : decode cL_law 442 = .ok (.astore 16, 2) := by decide +kernel
theorem dL_law_444 : decode cL_law 444 = .ok (.aload 10, 2) := by decide +kernel
theorem dL_law_446 : decode cL_law 446 = .ok (.aload 16, 2) := by decide +kernel
theorem dL_law_448 : decode cL_law 448 = .ok (.invokevirtual 171, 3) := by decide +kernel
theorem dL_law_451 : decode cL_law 451 = .ok (.istore 17, 2) := by decide +kernel
theorem dL_law_453 : decode cL_law 453 = .ok (.aload_n 2, 1) := by decide +kernel
theorem dL_law_454 : decode cL_law 454 = .ok (.aload 16, 2) := by decide +kernel
theorem dL_law_456 : decode cL_law 456 = .ok (.getfield 175, 3) := by decide +kernel
theorem dL_law_459 : decode cL_law 459 = .ok (.aload 16, 2) := by decide +kernel
theorem dL_law_461 : decode cL_law 461 = .ok (.getfield 179, 3) := by decide +kernel
theorem dL_law_464 : decode cL_law 464 = .ok (.aload 16, 2) := by decide +kernel
theorem dL_law_466 : decode cL_law 466 = .ok (.getfield 182, 3) := by decide +kernel
theorem dL_law_469 : decode cL_law 469 = .ok (.aload 16, 2) := by decide +kernel
theorem dL_law_471 : decode cL_law 471 = .ok (.getfield 184, 3) := by decide +kernel
theorem dL_law_474 : decode cL_law 474 = .ok (.aload 16, 2) := by decide +kernel
theorem dL_law_476 : decode cL_law 476 = .ok (.getfield 188, 3) := by decide +kernel
theorem dL_law_479 : decode cL_law 479 = .ok (.invokevirtual 191, 3) := by decide +kernel
theorem dL_law_482 : decode cL_law 482 = .ok (.iload 17, 2) := by decide +kernel
theorem dL_law_484 : decode cL_law 484 = .ok (.if_icmp .eq 5, 3) := by decide +kernel
theorem dL_law_487 : decode cL_law 487 = .ok (.iconst 0, 1) := by decide +kernel
theorem dL_law_488 : decode cL_law 488 = .ok (.ireturn, 1) := by decide +kernel
theorem dL_law_489 : decode cL_law 489 = .ok (.iload 17, 2) := by decide +kernel
theorem dL_law_491 : decode cL_law 491 = .ok (.ifCond .ne 31, 3) := by decide +kernel
theorem dL_law_494 : decode cL_law 494 = .ok (.aload 10, 2) := by decide +kernel
theorem dL_law_496 : decode cL_law 496 = .ok (.getfield 195, 3) := by decide +kernel
theorem dL_law_499 : decode cL_law 499 = .ok (.aload 10, 2) := by decide +kernel
theorem dL_law_501 : decode cL_law 501 = .ok (.invokevirtual 91, 3) := by decide +kernel
theorem dL_law_504 : decode cL_law 504 = .ok (.invokevirtual 199, 3) := by decide +kernel
theorem dL_law_507 : decode cL_law 507 = .ok (.checkcast 200, 3) := by decide +kernel
theorem dL_law_510 : decode cL_law 510 = .ok (.aload 16, 2) := by decide +kernel
theorem dL_law_512 : decode cL_law 512 = .ok (.invokevirtual 205, 3) := by decide +kernel
theorem dL_law_515 : decode cL_law 515 = .ok (.pop, 1) := by decide +kernel
theorem dL_law_516 : decode cL_law 516 = .ok (.aload 10, 2) := by decide +kernel
theorem dL_law_518 : decode cL_law 518 = .ok (.iconst 1, 1) := by decide +kernel
theorem dL_law_519 : decode cL_law 519 = .ok (.putfield 209, 3) := by decide +kernel
theorem dL_law_522 : decode cL_law 522 = .ok (.goto 208, 3) := by decide +kernel
theorem dL_law_525 : decode cL_law 525 = .ok (.iload 14, 2) := by decide +kernel
theorem dL_law_527 : decode cL_law 527 = .ok (.iconst 2, 1) := by decide +kernel
theorem dL_law_528 : decode cL_law 528 = .ok (.if_icmp .ne 42, 3) := by decide +kernel
theorem dL_law_531 : decode cL_law 531 = .ok (.aload_n 2, 1) := by decide +kernel
theorem dL_law_532 : decode cL_law 532 = .ok (.invokevirtual 212, 3) := by decide +kernel
theorem dL_law_535 : decode cL_law 535 = .ok (.aload 10, 2) := by decide +kernel
theorem dL_law_537 : decode cL_law 537 = .ok (.getfield 215, 3) := by decide +kernel
theorem dL_law_540 : decode cL_law 540 = .ok (.ifCond .eq 7, 3) := by decide +kernel
theorem dL_law_543 : decode cL_law 543 = .ok (.iconst 1, 1) := by decide +kernel
theorem dL_law_544 : decode cL_law 544 = .ok (.goto 4, 3) := by decide +kernel
theorem dL_law_547 : decode cL_law 547 = .ok (.iconst 0, 1) := by decide +kernel
theorem dL_law_548 : decode cL_law 548 = .ok (.if_icmp .eq 5, 3) := by decide +kernel
theorem dL_law_551 : decode cL_law 551 = .ok (.iconst 0, 1) := by decide +kernel
theorem dL_law_552 : decode cL_law 552 = .ok (.ireturn, 1) := by decide +kernel
theorem dL_law_553 : decode cL_law 553 = .ok (.aload 10, 2) := by decide +kernel
theorem dL_law_555 : decode cL_law 555 = .ok (.getfield 215, 3) := by decide +kernel
theorem dL_law_558 : decode cL_law 558 = .ok (.ifCond .ne 172, 3) := by decide +kernel
theorem dL_law_561 : decode cL_law 561 = .ok (.aload 10, 2) := by decide +kernel
theorem dL_law_563 : decode cL_law 563 = .ok (.iconst 1, 1) := by decide +kernel
theorem dL_law_564 : decode cL_law 564 = .ok (.invokevirtual 218, 3) := by decide +kernel
theorem dL_law_567 : decode cL_law 567 = .ok (.goto 163, 3) := by decide +kernel
theorem dL_law_570 : decode cL_law 570 = .ok (.aload_n 1, 1) := by decide +kernel
theorem dL_law_571 : decode cL_law 571 = .ok (.iload_n 3, 1) := by decide +kernel
theorem dL_law_572 : decode cL_law 572 = .ok (.invokevirtual 113, 3) := by decide +kernel
theorem dL_law_575 : decode cL_law 575 = .ok (.istore 15, 2) := by decide +kernel
theorem dL_law_577 : decode cL_law 577 = .ok (.aload_n 1, 1) := by decide +kernel
theorem dL_law_578 : decode cL_law 578 = .ok (.bipush 18, 2) := by decide +kernel
theorem dL_law_580 : decode cL_law 580 = .ok (.invokevirtual 113, 3) := by decide +kernel
theorem dL_law_583 : decode cL_law 583 = .ok (.bipush 9, 2) := by decide +kernel
theorem dL_law_585 : decode cL_law 585 = .ok (.isub, 1) := by decide +kernel
theorem dL_law_586 : decode cL_law 586 = .ok (.istore 16, 2) := by decide +kernel
theorem dL_law_588 : decode cL_law 588 = .ok (.iload 16, 2) := by decide +kernel
theorem dL_law_590 : decode cL_law 590 = .ok (.ifCond .lt 10, 3) := by decide +kernel
theorem dL_law_593 : decode cL_law 593 = .ok (.iload 16, 2) := by decide +kernel
theorem dL_law_595 : decode cL_law 595 = .ok (.iconst 1, 1) := by decide +kernel
theorem dL_law_596 : decode cL_law 596 = .ok (.iadd, 1) := by decide +kernel
theorem dL_law_597 : decode cL_law 597 = .ok (.goto 5, 3) := by decide +kernel
theorem dL_law_600 : decode cL_law 600 = .ok (.iload 16, 2) := by decide +kernel
theorem dL_law_602 : decode cL_law 602 = .ok (.istore 16, 2) := by decide +kernel
theorem dL_law_604 : decode cL_law 604 = .ok (.aload 10, 2) := by decide +kernel
theorem dL_law_606 : decode cL_law 606 = .ok (.iload 16, 2) := by decide +kernel
theorem dL_law_608 : decode cL_law 608 = .ok (.iload 15, 2) := by decide +kernel
theorem dL_law_610 : decode cL_law 610 = .ok (.invokevirtual 97, 3) := by decide +kernel
theorem dL_law_613 : decode cL_law 613 = .ok (.istore 17, 2) := by decide +kernel
theorem dL_law_615 : decode cL_law 615 = .ok (.aload 10, 2) := by decide +kernel
theorem dL_law_617 : decode cL_law 617 = .ok (.invokevirtual 91, 3) := by decide +kernel
theorem dL_law_620 : decode cL_law 620 = .ok (.istore 18, 2) := by decide +kernel
theorem dL_law_622 : decode cL_law 622 = .ok (.iload 17, 2) := by decide +kernel
theorem dL_law_624 : decode cL_law 624 = .ok (.ifCond .ne 15, 3) := by decide +kernel
theorem dL_law_627 : decode cL_law 627 = .ok (.aload_n 2, 1) := by decide +kernel
theorem dL_law_628 : decode cL_law 628 = .ok (.iload 16, 2) := by decide +kernel
theorem dL_law_630 : decode cL_law 630 = .ok (.iload 15, 2) := by decide +kernel
theorem dL_law_632 : decode cL_law 632 = .ok (.iconst 0, 1) := by decide +kernel
theorem dL_law_633 : decode cL_law 633 = .ok (.invokevirtual 100, 3) := by decide +kernel
theorem dL_law_636 : decode cL_law 636 = .ok (.goto 4, 3) := by decide +kernel
theorem dL_law_639 : decode cL_law 639 = .ok (.iconst 0, 1) := by decide +kernel
theorem dL_law_640 : decode cL_law 640 = .ok (.istore 19, 2) := by decide +kernel
theorem dL_law_642 : decode cL_law 642 = .ok (.aload_n 2, 1) := by decide +kernel
theorem dL_law_643 : decode cL_law 643 = .ok (.iload 16, 2) := by decide +kernel
theorem dL_law_645 : decode cL_law 645 = .ok (.iload 15, 2) := by decide +kernel
theorem dL_law_647 : decode cL_law 647 = .ok (.invokevirtual 222, 3) := by decide +kernel
theorem dL_law_650 : decode cL_law 650 = .ok (.iload 17, 2) := by decide +kernel
theorem dL_law_652 : decode cL_law 652 = .ok (.if_icmp .eq 5, 3) := by decide +kernel
theorem dL_law_655 : decode cL_law 655 = .ok (.iconst 0, 1) := by decide +kernel
theorem dL_law_656 : decode cL_law 656 = .ok (.ireturn, 1) := by decide +kernel
theorem dL_law_657 : decode cL_law 657 = .ok (.iload 17, 2) := by decide +kernel
theorem dL_law_659 : decode cL_law 659 = .ok (.ifCond .ne 71, 3) := by decide +kernel
theorem dL_law_662 : decode cL_law 662 = .ok (.aload 10, 2) := by decide +kernel
theorem dL_law_664 : decode cL_law 664 = .ok (.getfield 27, 3) := by decide +kernel
theorem dL_law_667 : decode cL_law 667 = .ok (.iload 15, 2) := by decide +kernel
theorem dL_law_669 : decode cL_law 669 = .ok (.dup2, 1) := by decide +kernel
theorem dL_law_670 : decode cL_law 670 = .ok (.iaload, 1) := by decide +kernel
theorem dL_law_671 : decode cL_law 671 = .ok (.iload 16, 2) := by decide +kernel
theorem dL_law_673 : decode cL_law 673 = .ok (.iadd, 1) := by decide +kernel
theorem dL_law_674 : decode cL_law 674 = .ok (.iastore, 1) := by decide +kernel
theorem dL_law_675 : decode cL_law 675 = .ok (.aload 10, 2) := by decide +kernel
theorem dL_law_677 : decode cL_law 677 = .ok (.getfield 225, 3) := by decide +kernel
theorem dL_law_680 : decode cL_law 680 = .ok (.iload 15, 2) := by decide +kernel
theorem dL_law_682 : decode cL_law 682 = .ok (.aload 10, 2) := by decide +kernel
theorem dL_law_684 : decode cL_law 684 = .ok (.getfield 228, 3) := by decide +kernel
theorem dL_law_687 : decode cL_law 687 = .ok (.iastore, 1) := by decide +kernel
theorem dL_law_688 : decode cL_law 688 = .ok (.aload 10, 2) := by decide +kernel
theorem dL_law_690 : decode cL_law 690 = .ok (.iconst 0, 1) := by decide +kernel
theorem dL_law_691 : decode cL_law 691 = .ok (.invokevirtual 218, 3) := by decide +kernel
theorem dL_law_694 : decode cL_law 694 = .ok (.aload_n 2, 1) := by decide +kernel
theorem dL_law_695 : decode cL_law 695 = .ok (.invokevirtual 39, 3) := by decide +kernel
theorem dL_law_698 : decode cL_law 698 = .ok (.iload 19, 2) := by decide +kernel
theorem dL_law_700 : decode cL_law 700 = .ok (.if_icmp .eq 5, 3) := by decide +kernel
theorem dL_law_703 : decode cL_law 703 = .ok (.iconst 0, 1) := by decide +kernel
theorem dL_law_704 : decode cL_law 704 = .ok (.ireturn, 1) := by decide +kernel
theorem dL_law_705 : decode cL_law 705 = .ok (.iload 7, 2) := by decide +kernel
theorem dL_law_707 : decode cL_law 707 = .ok (.ifCond .le 23, 3) := by decide +kernel
theorem dL_law_710 : decode cL_law 710 = .ok (.iload 19, 2) := by decide +kernel
theorem dL_law_712 : decode cL_law 712 = .ok (.iload 7, 2) := by decide +kernel
theorem dL_law_714 : decode cL_law 714 = .ok (.if_icmp .lt 16, 3) := by decide +kernel
theorem dL_law_717 : decode cL_law 717 = .ok (.aload 10, 2) := by decide +kernel
theorem dL_law_719 : decode cL_law 719 = .ok (.iconst 1, 1) := by decide +kernel
theorem dL_law_720 : decode cL_law 720 = .ok (.putfield 215, 3) := by decide +kernel
theorem dL_law_723 : decode cL_law 723 = .ok (.aload 10, 2) := by decide +kernel
theorem dL_law_725 : decode cL_law 725 = .ok (.iload 18, 2) := by decide +kernel
theorem dL_law_727 : decode cL_law 727 = .ok (.putfield 231, 3) := by decide +kernel
theorem dL_law_730 : decode cL_law 730 = .ok (.iconst 0, 1) := by decide +kernel
theorem dL_law_731 : decode cL_law 731 = .ok (.istore 15, 2) := by decide +kernel
theorem dL_law_733 : decode cL_law 733 = .ok (.iconst 0, 1) := by decide +kernel
theorem dL_law_734 : decode cL_law 734 = .ok (.istore 16, 2) := by decide +kernel
theorem dL_law_736 : decode cL_law 736 = .ok (.iload 16, 2) := by decide +kernel
theorem dL_law_738 : decode cL_law 738 = .ok (.iload_n 3, 1) := by decide +kernel
theorem dL_law_739 : decode cL_law 739 = .ok (.if_icmp .ge 74, 3) := by decide +kernel
theorem dL_law_742 : decode cL_law 742 = .ok (.aload_n 2, 1) := by decide +kernel
theorem dL_law_743 : decode cL_law 743 = .ok (.iload 16, 2) := by decide +kernel
theorem dL_law_745 : decode cL_law 745 = .ok (.iconst 0, 1) := by decide +kernel
theorem dL_law_746 : decode cL_law 746 = .ok (.invokevirtual 234, 3) := by decide +kernel
theorem dL_law_749 : decode cL_law 749 = .ok (.aload 10, 2) := by decide +kernel
theorem dL_law_751 : decode cL_law 751 = .ok (.getfield 27, 3) := by decide +kernel
theorem dL_law_754 : decode cL_law 754 = .ok (.iload 16, 2) := by decide +kernel
theorem dL_law_756 : decode cL_law 756 = .ok (.iaload, 1) := by decide +kernel
theorem dL_law_757 : decode cL_law 757 = .ok (.if_icmp .ne 28, 3) := by decide +kernel
theorem dL_law_760 : decode cL_law 760 = .ok (.aload_n 2, 1) := by decide +kernel
theorem dL_law_761 : decode cL_law 761 = .ok (.iload 16, 2) := by decide +kernel
theorem dL_law_763 : decode cL_law 763 = .ok (.iconst 1, 1) := by decide +kernel
theorem dL_law_764 : decode cL_law 764 = .ok (.invokevirtual 234, 3) := by decide +kernel
theorem dL_law_767 : decode cL_law 767 = .ok (.aload 10, 2) := by decide +kernel
theorem dL_law_769 : decode cL_law 769 = .ok (.iload 16, 2) := by decide +kernel
theorem dL_law_771 : decode cL_law 771 = .ok (.invokevirtual 237, 3) := by decide +kernel
theorem dL_law_774 : decode cL_law 774 = .ok (.ifCond .eq 7, 3) := by decide +kernel
theorem dL_law_777 : decode cL_law 777 = .ok (.iconst 1, 1) := by decide +kernel
theorem dL_law_778 : decode cL_law 778 = .ok (.goto 4, 3) := by decide +kernel
theorem dL_law_781 : decode cL_law 781 = .ok (.iconst 0, 1) := by decide +kernel
theorem dL_law_782 : decode cL_law 782 = .ok (.if_icmp .eq 5, 3) := by decide +kernel
theorem dL_law_785 : decode cL_law 785 = .ok (.iconst 0, 1) := by decide +kernel
theorem dL_law_786 : decode cL_law 786 = .ok (.ireturn, 1) := by decide +kernel
theorem dL_law_787 : decode cL_law 787 = .ok (.iload 15, 2) := by decide +kernel
theorem dL_law_789 : decode cL_law 789 = .ok (.aload 10, 2) := by decide +kernel
theorem dL_law_791 : decode cL_law 791 = .ok (.iload 16, 2) := by decide +kernel
theorem dL_law_793 : decode cL_law 793 = .ok (.invokevirtual 237, 3) := by decide +kernel
theorem dL_law_796 : decode cL_law 796 = .ok (.ifCond .eq 7, 3) := by decide +kernel
theorem dL_law_799 : decode cL_law 799 = .ok (.iconst 1, 1) := by decide +kernel
theorem dL_law_800 : decode cL_law 800 = .ok (.goto 4, 3) := by decide +kernel
theorem dL_law_803 : decode cL_law 803 = .ok (.iconst 0, 1) := by decide +kernel
theorem dL_law_804 : decode cL_law 804 = .ok (.iadd, 1) := by decide +kernel
theorem dL_law_805 : decode cL_law 805 = .ok (.istore 15, 2) := by decide +kernel
theorem dL_law_807 : decode cL_law 807 = .ok (.iinc 16 1, 3) := by decide +kernel
theorem dL_law_810 : decode cL_law 810 = .ok (.goto (-74), 3) := by decide +kernel
theorem dL_law_813 : decode cL_law 813 = .ok (.aload_n 2, 1) := by decide +kernel
theorem dL_law_814 : decode cL_law 814 = .ok (.bipush 7, 2) := by decide +kernel
theorem dL_law_816 : decode cL_law 816 = .ok (.invokevirtual 240, 3) := by decide +kernel
theorem dL_law_819 : decode cL_law 819 = .ok (.aload 10, 2) := by decide +kernel
theorem dL_law_821 : decode cL_law 821 = .ok (.getfield 228, 3) := by decide +kernel
theorem dL_law_824 : decode cL_law 824 = .ok (.if_icmp .ne 84, 3) := by decide +kernel
theorem dL_law_827 : decode cL_law 827 = .ok (.aload_n 2, 1) := by decide +kernel
theorem dL_law_828 : decode cL_law 828 = .ok (.bipush 8, 2) := by decide +kernel
theorem dL_law_830 : decode cL_law 830 = .ok (.invokevirtual 240, 3) := by decide +kernel
theorem dL_law_833 : decode cL_law 833 = .ok (.aload 10, 2) := by decide +kernel
theorem dL_law_835 : decode cL_law 835 = .ok (.getfield 215, 3) := by decide +kernel
theorem dL_law_838 : decode cL_law 838 = .ok (.ifCond .eq 7, 3) := by decide +kernel
theorem dL_law_841 : decode cL_law 841 = .ok (.iconst (-1), 1) := by decide +kernel
theorem dL_law_842 : decode cL_law 842 = .ok (.goto 8, 3) := by decide +kernel
theorem dL_law_845 : decode cL_law 845 = .ok (.aload 10, 2) := by decide +kernel
theorem dL_law_847 : decode cL_law 847 = .ok (.invokevirtual 91, 3) := by decide +kernel
theorem dL_law_850 : decode cL_law 850 = .ok (.if_icmp .ne 58, 3) := by decide +kernel
theorem dL_law_853 : decode cL_law 853 = .ok (.aload_n 2, 1) := by decide +kernel
theorem dL_law_854 : decode cL_law 854 = .ok (.bipush 10, 2) := by decide +kernel
theorem dL_law_856 : decode cL_law 856 = .ok (.invokevirtual 240, 3) := by decide +kernel
theorem dL_law_859 : decode cL_law 859 = .ok (.iload 15, 2) := by decide +kernel
theorem dL_law_861 : decode cL_law 861 = .ok (.if_icmp .ne 47, 3) := by decide +kernel
theorem dL_law_864 : decode cL_law 864 = .ok (.aload_n 2, 1) := by decide +kernel
theorem dL_law_865 : decode cL_law 865 = .ok (.bipush 14, 2) := by decide +kernel
theorem dL_law_867 : decode cL_law 867 = .ok (.invokevirtual 240, 3) := by decide +kernel
theorem dL_law_870 : decode cL_law 870 = .ok (.aload 10, 2) := by decide +kernel
theorem dL_law_872 : decode cL_law 872 = .ok (.getfield 209, 3) := by decide +kernel
theorem dL_law_875 : decode cL_law 875 = .ok (.ifCond .eq 15, 3) := by decide +kernel
theorem dL_law_878 : decode cL_law 878 = .ok (.aload 10, 2) := by decide +kernel
theorem dL_law_880 : decode cL_law 880 = .ok (.getfield 215, 3) := by decide +kernel
theorem dL_law_883 : decode cL_law 883 = .ok (.ifCond .ne 7, 3) := by decide +kernel
theorem dL_law_886 : decode cL_law 886 = .ok (.iconst 1, 1) := by decide +kernel
theorem dL_law_887 : decode cL_law 887 = .ok (.goto 4, 3) := by decide +kernel
theorem dL_law_890 : decode cL_law 890 = .ok (.iconst 0, 1) := by decide +kernel
theorem dL_law_891 : decode cL_law 891 = .ok (.if_icmp .ne 17, 3) := by decide +kernel
theorem dL_law_894 : decode cL_law 894 = .ok (.aload_n 2, 1) := by decide +kernel
theorem dL_law_895 : decode cL_law 895 = .ok (.bipush 15, 2) := by decide +kernel
theorem dL_law_897 : decode cL_law 897 = .ok (.invokevirtual 240, 3) := by decide +kernel
theorem dL_law_900 : decode cL_law 900 = .ok (.aload 10, 2) := by decide +kernel
theorem dL_law_902 : decode cL_law 902 = .ok (.getfield 231, 3) := by decide +kernel
theorem dL_law_905 : decode cL_law 905 = .ok (.if_icmp .eq 5, 3) := by decide +kernel
theorem dL_law_908 : decode cL_law 908 = .ok (.iconst 0, 1) := by decide +kernel
theorem dL_law_909 : decode cL_law 909 = .ok (.ireturn, 1) := by decide +kernel
theorem dL_law_910 : decode cL_law 910 = .ok (.aload 10, 2) := by decide +kernel
theorem dL_law_912 : decode cL_law 912 = .ok (.aload_n 2, 1) := by decide +kernel
theorem dL_law_913 : decode cL_law 913 = .ok (.iconst 0, 1) := by decide +kernel
theorem dL_law_914 : decode cL_law 914 = .ok (.invokevirtual 243, 3) := by decide +kernel
theorem dL_law_917 : decode cL_law 917 = .ok (.istore 16, 2) := by decide +kernel
theorem dL_law_919 : decode cL_law 919 = .ok (.aload 10, 2) := by decide +kernel
theorem dL_law_921 : decode cL_law 921 = .ok (.aload_n 2, 1) := by decide +kernel
theorem dL_law_922 : decode cL_law 922 = .ok (.iconst 1, 1) := by decide +kernel
theorem dL_law_923 : decode cL_law 923 = .ok (.invokevirtual 243, 3) := by decide +kernel
theorem dL_law_926 : decode cL_law 926 = .ok (.istore 17, 2) := by decide +kernel
theorem dL_law_928 : decode cL_law 928 = .ok (.aload_n 2, 1) := by decide +kernel
theorem dL_law_929 : decode cL_law 929 = .ok (.iconst 0, 1) := by decide +kernel
theorem dL_law_930 : decode cL_law 930 = .ok (.iconst 0, 1) := by decide +kernel
theorem dL_law_931 : decode cL_law 931 = .ok (.invokevirtual 247, 3) := by decide +kernel
theorem dL_law_934 : decode cL_law 934 = .ok (.iload 16, 2) := by decide +kernel
theorem dL_law_936 : decode cL_law 936 = .ok (.if_icmp .ne 56, 3) := by decide +kernel
theorem dL_law_939 : decode cL_law 939 = .ok (.aload_n 2, 1) := by decide +kernel
theorem dL_law_940 : decode cL_law 940 = .ok (.iconst 1, 1) := by decide +kernel
theorem dL_law_941 : decode cL_law 941 = .ok (.iconst 0, 1) := by decide +kernel
theorem dL_law_942 : decode cL_law 942 = .ok (.invokevirtual 247, 3) := by decide +kernel
theorem dL_law_945 : decode cL_law 945 = .ok (.iload 17, 2) := by decide +kernel
theorem dL_law_947 : decode cL_law 947 = .ok (.if_icmp .ne 45, 3) := by decide +kernel
theorem dL_law_950 : decode cL_law 950 = .ok (.aload_n 2, 1) := by decide +kernel
theorem dL_law_951 : decode cL_law 951 = .ok (.invokevirtual 250, 3) := by decide +kernel
theorem dL_law_954 : decode cL_law 954 = .ok (.aload 10, 2) := by decide +kernel
theorem dL_law_956 : decode cL_law 956 = .ok (.getfield 215, 3) := by decide +kernel
theorem dL_law_959 : decode cL_law 959 = .ok (.ifCond .ne 7, 3) := by decide +kernel
theorem dL_law_962 : decode cL_law 962 = .ok (.iconst (-1), 1) := by decide +kernel
theorem dL_law_963 : decode cL_law 963 = .ok (.goto 26, 3) := by decide +kernel
theorem dL_law_966 : decode cL_law 966 = .ok (.iload 16, 2) := by decide +kernel
theorem dL_law_968 : decode cL_law 968 = .ok (.iload 17, 2) := by decide +kernel
theorem dL_law_970 : decode cL_law 970 = .ok (.if_icmp .le 7, 3) := by decide +kernel
theorem dL_law_973 : decode cL_law 973 = .ok (.iconst 0, 1) := by decide +kernel
theorem dL_law_974 : decode cL_law 974 = .ok (.goto 15, 3) := by decide +kernel
theorem dL_law_977 : decode cL_law 977 = .ok (.iload 16, 2) := by decide +kernel
theorem dL_law_979 : decode cL_law 979 = .ok (.iload 17, 2) := by decide +kernel
theorem dL_law_981 : decode cL_law 981 = .ok (.if_icmp .ge 7, 3) := by decide +kernel
theorem dL_law_984 : decode cL_law 984 = .ok (.iconst 1, 1) := by decide +kernel
theorem dL_law_985 : decode cL_law 985 = .ok (.goto 4, 3) := by decide +kernel
theorem dL_law_988 : decode cL_law 988 = .ok (.iconst 2, 1) := by decide +kernel
theorem dL_law_989 : decode cL_law 989 = .ok (.if_icmp .eq 5, 3) := by decide +kernel
theorem dL_law_992 : decode cL_law 992 = .ok (.iconst 0, 1) := by decide +kernel
theorem dL_law_993 : decode cL_law 993 = .ok (.ireturn, 1) := by decide +kernel
theorem dL_law_994 : decode cL_law 994 = .ok (.iinc 13 (-1), 3) := by decide +kernel
theorem dL_law_997 : decode cL_law 997 = .ok (.goto (-634), 3) := by decide +kernel
theorem dL_law_1000 : decode cL_law 1000 = .ok (.aload_n 2, 1) := by decide +kernel
theorem dL_law_1001 : decode cL_law 1001 = .ok (.aload 10, 2) := by decide +kernel
theorem dL_law_1003 : decode cL_law 1003 = .ok (.invokestatic 162, 3) := by decide +kernel
theorem dL_law_1006 : decode cL_law 1006 = .ok (.ifCond .eq 12, 3) := by decide +kernel
theorem dL_law_1009 : decode cL_law 1009 = .ok (.aload_n 2, 1) := by decide +kernel
theorem dL_law_1010 : decode cL_law 1010 = .ok (.aload 10, 2) := by decide +kernel
theorem dL_law_1012 : decode cL_law 1012 = .ok (.invokestatic 253, 3) := by decide +kernel
theorem dL_law_1015 : decode cL_law 1015 = .ok (.ifCond .ne 5, 3) := by decide +kernel
theorem dL_law_1018 : decode cL_law 1018 = .ok (.iconst 0, 1) := by decide +kernel
theorem dL_law_1019 : decode cL_law 1019 = .ok (.ireturn, 1) := by decide +kernel
theorem dL_law_1020 : decode cL_law 1020 = .ok (.aload_n 2, 1) := by decide +kernel
theorem dL_law_1021 : decode cL_law 1021 = .ok (.invokevirtual 256, 3) := by decide +kernel
theorem dL_law_1024 : decode cL_law 1024 = .ok (.istore 13, 2) := by decide +kernel
theorem dL_law_1026 : decode cL_law 1026 = .ok (.new 117, 3) := by decide +kernel
theorem dL_law_1029 : decode cL_law 1029 = .ok (.dup, 1) := by decide +kernel
theorem dL_law_1030 : decode cL_law 1030 = .ok (.invokespecial 119, 3) := by decide +kernel
theorem dL_law_1033 : decode cL_law 1033 = .ok (.astore 14, 2) := by decide +kernel
theorem dL_law_1035 : decode cL_law 1035 = .ok (.iconst 0, 1) := by decide +kernel
theorem dL_law_1036 : decode cL_law 1036 = .ok (.istore 15, 2) := by decide +kernel
theorem dL_law_1038 : decode cL_law 1038 = .ok (.iload 15, 2) := by decide +kernel
theorem dL_law_1040 : decode cL_law 1040 = .ok (.iload 13, 2) := by decide +kernel
theorem dL_law_1042 : decode cL_law 1042 = .ok (.if_icmp .ge 22, 3) := by decide +kernel
theorem dL_law_1045 : decode cL_law 1045 = .ok (.aload 14, 2) := by decide +kernel
theorem dL_law_1047 : decode cL_law 1047 = .ok (.aload_n 2, 1) := by decide +kernel
theorem dL_law_1048 : decode cL_law 1048 = .ok (.iload 15, 2) := by decide +kernel
theorem dL_law_1050 : decode cL_law 1050 = .ok (.invokevirtual 259, 3) := by decide +kernel
theorem dL_law_1053 : decode cL_law 1053 = .ok (.i2c, 1) := by decide +kernel
theorem dL_law_1054 : decode cL_law 1054 = .ok (.invokevirtual 152, 3) := by decide +kernel
theorem dL_law_1057 : decode cL_law 1057 = .ok (.pop, 1) := by decide +kernel
theorem dL_law_1058 : decode cL_law 1058 = .ok (.iinc 15 1, 3) := by decide +kernel
theorem dL_law_1061 : decode cL_law 1061 = .ok (.goto (-23), 3) := by decide +kernel
theorem dL_law_1064 : decode cL_law 1064 = .ok (.aload_n 2, 1) := by decide +kernel
theorem dL_law_1065 : decode cL_law 1065 = .ok (.iconst 0, 1) := by decide +kernel
theorem dL_law_1066 : decode cL_law 1066 = .ok (.iconst 0, 1) := by decide +kernel
theorem dL_law_1067 : decode cL_law 1067 = .ok (.invokevirtual 247, 3) := by decide +kernel
theorem dL_law_1070 : decode cL_law 1070 = .ok (.istore 15, 2) := by decide +kernel
theorem dL_law_1072 : decode cL_law 1072 = .ok (.aload_n 2, 1) := by decide +kernel
theorem dL_law_1073 : decode cL_law 1073 = .ok (.bipush 7, 2) := by decide +kernel
theorem dL_law_1075 : decode cL_law 1075 = .ok (.invokevirtual 240, 3) := by decide +kernel
theorem dL_law_1078 : decode cL_law 1078 = .ok (.istore 16, 2) := by decide +kernel
theorem dL_law_1080 : decode cL_law 1080 = .ok (.aload 14, 2) := by decide +kernel
theorem dL_law_1082 : decode cL_law 1082 = .ok (.invokevirtual 143, 3) := by decide +kernel
theorem dL_law_1085 : decode cL_law 1085 = .ok (.astore 17, 2) := by decide +kernel
theorem dL_law_1087 : decode cL_law 1087 = .ok (.aload 17, 2) := by decide +kernel
theorem dL_law_1089 : decode cL_law 1089 = .ok (.invokevirtual 14, 3) := by decide +kernel
theorem dL_law_1092 : decode cL_law 1092 = .ok (.sipush 600, 3) := by decide +kernel
theorem dL_law_1095 : decode cL_law 1095 = .ok (.if_icmp .le 5, 3) := by decide +kernel
theorem dL_law_1098 : decode cL_law 1098 = .ok (.iconst 1, 1) := by decide +kernel
theorem dL_law_1099 : decode cL_law 1099 = .ok (.ireturn, 1) := by decide +kernel
theorem dL_law_1100 : decode cL_law 1100 = .ok (.iconst 0, 1) := by decide +kernel
theorem dL_law_1101 : decode cL_law 1101 = .ok (.istore 18, 2) := by decide +kernel
theorem dL_law_1103 : decode cL_law 1103 = .ok (.iconst 0, 1) := by decide +kernel
theorem dL_law_1104 : decode cL_law 1104 = .ok (.istore 19, 2) := by decide +kernel
theorem dL_law_1106 : decode cL_law 1106 = .ok (.iload 19, 2) := by decide +kernel
theorem dL_law_1108 : decode cL_law 1108 = .ok (.iload 13, 2) := by decide +kernel
theorem dL_law_1110 : decode cL_law 1110 = .ok (.if_icmp .ge 31, 3) := by decide +kernel
theorem dL_law_1113 : decode cL_law 1113 = .ok (.iload 18, 2) := by decide +kernel
theorem dL_law_1115 : decode cL_law 1115 = .ok (.aload 17, 2) := by decide +kernel
theorem dL_law_1117 : decode cL_law 1117 = .ok (.iload 19, 2) := by decide +kernel
theorem dL_law_1119 : decode cL_law 1119 = .ok (.invokevirtual 20, 3) := by decide +kernel
theorem dL_law_1122 : decode cL_law 1122 = .ok (.bipush 59, 2) := by decide +kernel
theorem dL_law_1124 : decode cL_law 1124 = .ok (.if_icmp .ne 7, 3) := by decide +kernel
theorem dL_law_1127 : decode cL_law 1127 = .ok (.iconst 1, 1) := by decide +kernel
theorem dL_law_1128 : decode cL_law 1128 = .ok (.goto 4, 3) := by decide +kernel
theorem dL_law_1131 : decode cL_law 1131 = .ok (.iconst 0, 1) := by decide +kernel
theorem dL_law_1132 : decode cL_law 1132 = .ok (.iadd, 1) := by decide +kernel
theorem dL_law_1133 : decode cL_law 1133 = .ok (.istore 18, 2) := by decide +kernel
theorem dL_law_1135 : decode cL_law 1135 = .ok (.iinc 19 1, 3) := by decide +kernel
theorem dL_law_1138 : decode cL_law 1138 = .ok (.goto (-32), 3) := by decide +kernel
theorem dL_law_1141 : decode cL_law 1141 = .ok (.aload_n 2, 1) := by decide +kernel
theorem dL_law_1142 : decode cL_law 1142 = .ok (.aload 11, 2) := by decide +kernel
theorem dL_law_1144 : decode cL_law 1144 = .ok (.invokevirtual 143, 3) := by decide +kernel
theorem dL_law_1147 : decode cL_law 1147 = .ok (.invokestatic 155, 3) := by decide +kernel
theorem dL_law_1150 : decode cL_law 1150 = .ok (.aload_n 2, 1) := by decide +kernel
theorem dL_law_1151 : decode cL_law 1151 = .ok (.invokevirtual 159, 3) := by decide +kernel
theorem dL_law_1154 : decode cL_law 1154 = .ok (.bipush 6, 2) := by decide +kernel
theorem dL_law_1156 : decode cL_law 1156 = .ok (.iload 12, 2) := by decide +kernel
theorem dL_law_1158 : decode cL_law 1158 = .ok (.iadd, 1) := by decide +kernel
theorem dL_law_1159 : decode cL_law 1159 = .ok (.if_icmp .eq 5, 3) := by decide +kernel
theorem dL_law_1162 : decode cL_law 1162 = .ok (.iconst 0, 1) := by decide +kernel
theorem dL_law_1163 : decode cL_law 1163 = .ok (.ireturn, 1) := by decide +kernel
theorem dL_law_1164 : decode cL_law 1164 = .ok (.aload_n 2, 1) := by decide +kernel
theorem dL_law_1165 : decode cL_law 1165 = .ok (.aload 17, 2) := by decide +kernel
theorem dL_law_1167 : decode cL_law 1167 = .ok (.invokestatic 155, 3) := by decide +kernel
theorem dL_law_1170 : decode cL_law 1170 = .ok (.aload_n 2, 1) := by decide +kernel
theorem dL_law_1171 : decode cL_law 1171 = .ok (.invokevirtual 262, 3) := by decide +kernel
theorem dL_law_1174 : decode cL_law 1174 = .ok (.iload 18, 2) := by decide +kernel
theorem dL_law_1176 : decode cL_law 1176 = .ok (.if_icmp .ne 29, 3) := by decide +kernel
theorem dL_law_1179 : decode cL_law 1179 = .ok (.aload_n 2, 1) := by decide +kernel
theorem dL_law_1180 : decode cL_law 1180 = .ok (.iconst 0, 1) := by decide +kernel
theorem dL_law_1181 : decode cL_law 1181 = .ok (.iconst 0, 1) := by decide +kernel
theorem dL_law_1182 : decode cL_law 1182 = .ok (.invokevirtual 247, 3) := by decide +kernel
theorem dL_law_1185 : decode cL_law 1185 = .ok (.iload 15, 2) := by decide +kernel
theorem dL_law_1187 : decode cL_law 1187 = .ok (.if_icmp .ne 18, 3) := by decide +kernel
theorem dL_law_1190 : decode cL_law 1190 = .ok (.aload_n 2, 1) := by decide +kernel
theorem dL_law_1191 : decode cL_law 1191 = .ok (.bipush 7, 2) := by decide +kernel
theorem dL_law_1193 : decode cL_law 1193 = .ok (.invokevirtual 240, 3) := by decide +kernel
theorem dL_law_1196 : decode cL_law 1196 = .ok (.iload 16, 2) := by decide +kernel
theorem dL_law_1198 : decode cL_law 1198 = .ok (.if_icmp .ne 7, 3) := by decide +kernel
theorem dL_law_1201 : decode cL_law 1201 = .ok (.iconst 1, 1) := by decide +kernel
theorem dL_law_1202 : decode cL_law 1202 = .ok (.goto 4, 3) := by decide +kernel
theorem dL_law_1205 : decode cL_law 1205 = .ok (.iconst 0, 1) := by decide +kernel
theorem dL_law_1206 : decode cL_law 1206 = .ok (.ireturn, 1) := by decide +kernel
end
section
theorem dJ5_init_d00df_0 : decode cJ5_init_d00df 0 = .ok (.aload_n 0, 1) := by decide +kernel
theorem dJ5_init_d00df_1 : decode cJ5_init_d00df 1 = .ok (.invokespecial 3, 3) := by decide +kernel
theorem dJ5_init_d00df_4 : decode cJ5_init_d00df 4 = .ok (.getstatic 18, 3) := by decide +kernel
theorem dJ5_init_d00df_7 : decode cJ5_init_d00df 7 = .ok (.ifCond .eq 18, 3) := by decide +kernel
theorem dJ5_init_d00df_10 : decode cJ5_init_d00df 10 = .ok (.aload_n 0, 1) := by decide +kernel
theorem dJ5_init_d00df_11 : decode cJ5_init_d00df 11 = .ok (.iload_n 1, 1) := by decide +kernel
theorem dJ5_init_d00df_12 : decode cJ5_init_d00df 12 = .ok (.newarray .byte, 2) := by decide +kernel
theorem dJ5_init_d00df_14 : decode cJ5_init_d00df 14 = .ok (.putfield 15, 3) := by decide +kernel
theorem dJ5_init_d00df_17 : decode cJ5_init_d00df 17 = .ok (.aload_n 0, 1) := by decide +kernel
theorem dJ5_init_d00df_18 : decode cJ5_init_d00df 18 = .ok (.iconst 0, 1) := by decide +kernel
theorem dJ5_init_d00df_19 : decode cJ5_init_d00df 19 = .ok (.putfield 22, 3) := by decide +kernel
theorem dJ5_init_d00df_22 : decode cJ5_init_d00df 22 = .ok (.goto 16, 3) := by decide +kernel
theorem dJ5_init_d00df_25 : decode cJ5_init_d00df 25 = .ok (.aload_n 0, 1) := by decide +kernel
theorem dJ5_init_d00df_26 : decode cJ5_init_d00df 26 = .ok (.iload_n 1, 1) := by decide +kernel
theorem dJ5_init_d00df_27 : decode cJ5_init_d00df 27 = .ok (.invokestatic 26, 3) := by decide +kernel
theorem dJ5_init_d00df_30 : decode cJ5_init_d00df 30 = .ok (.putfield 15, 3) := by decide +kernel
theorem dJ5_init_d00df_33 : decode cJ5_init_d00df 33 = .ok (.aload_n 0, 1) := by decide +kernel
theorem dJ5_init_d00df_34 : decode cJ5_init_d00df 34 = .ok (.iconst 1, 1) := by decide +kernel
theorem dJ5_init_d00df_35 : decode cJ5_init_d00df 35 = .ok (.putfield 22, 3) := by decide +kernel
theorem dJ5_init_d00df_38 : decode cJ5_init_d00df 38 = .ok (.return_, 1) := by decide +kernel
theorem dJ5_init_a7421_0 : decode cJ5_init_a7421 0 = .ok (.aload_n 0, 1) := by decide +kernel
theorem dJ5_init_a7421_1 : decode cJ5_init_a7421 1 = .ok (.invokespecial 3, 3) := by decide +kernel
theorem dJ5_init_a7421_4 : decode cJ5_init_a7421 4 = .ok (.aload_n 1, 1) := by decide +kernel
theorem dJ5_init_a7421_5 : decode cJ5_init_a7421 5 = .ok (.invokevirtual 32, 3) := by decide +kernel
theorem dJ5_init_a7421_8 : decode cJ5_init_a7421 8 = .ok (.istore_n 2, 1) := by decide +kernel
theorem dJ5_init_a7421_9 : decode cJ5_init_a7421 9 = .ok (.iload_n 2, 1) := by decide +kernel
theorem dJ5_init_a7421_10 : decode cJ5_init_a7421 10 = .ok (.ldc 38, 2) := by decide +kernel
theorem dJ5_init_a7421_12 : decode cJ5_init_a7421 12 = .ok (.if_icmp .ge 10, 3) := by decide +kernel
theorem dJ5_init_a7421_15 : decode cJ5_init_a7421 15 = .ok (.iload_n 2, 1) := by decide +kernel
theorem dJ5_init_a7421_16 : decode cJ5_init_a7421 16 = .ok (.bipush 16, 2) := by decide +kernel
theorem dJ5_init_a7421_18 : decode cJ5_init_a7421 18 = .ok (.iadd, 1) := by decide +kernel
theorem dJ5_init_a7421_19 : decode cJ5_init_a7421 19 = .ok (.goto 5, 3) := by decide +kernel
theorem dJ5_init_a7421_22 : decode cJ5_init_a7421 22 = .ok (.ldc 39, 2) := by decide +kernel
theorem dJ5_init_a7421_24 : decode cJ5_init_a7421 24 = .ok (.istore_n 3, 1) := by decide +kernel
theorem dJ5_init_a7421_25 : decode cJ5_init_a7421 25 = .ok (.aload_n 1, 1) := by decide +kernel
theorem dJ5_init_a7421_26 : decode cJ5_init_a7421 26 = .ok (.invokevirtual 40, 3) := by decide +kernel
theorem dJ5_init_a7421_29 : decode cJ5_init_a7421 29 = .ok (.istore 4, 2) := by decide +kernel
theorem dJ5_init_a7421_31 : decode cJ5_init_a7421 31 = .ok (.aload_n 0, 1) := by decide +kernel
theorem dJ5_init_a7421_32 : decode cJ5_init_a7421 32 = .ok (.iload 4, 2) := by decide +kernel
theorem dJ5_init_a7421_34 : decode cJ5_init_a7421 34 = .ok (.putfield 22, 3) := by decide +kernel
theorem dJ5_init_a7421_37 : decode cJ5_init_a7421 37 = .ok (.aload_n 0, 1) := by decide +kernel
theorem dJ5_init_a7421_38 : decode cJ5_init_a7421 38 = .ok (.iload 4, 2) := by decide +kernel
theorem dJ5_init_a7421_40 : decode cJ5_init_a7421 40 = .ok (.ifCond .ne 9, 3) := by decide +kernel
theorem dJ5_init_a7421_43 : decode cJ5_init_a7421 43 = .ok (.iload_n 3, 1) := by decide +kernel
theorem dJ5_init_a7421_44 : decode cJ5_init_a7421 44 = .ok (.newarray .byte, 2) := by decide +kernel
theorem dJ5_init_a7421_46 : decode cJ5_init_a7421 46 = .ok (.goto 7, 3) := by decide +kernel
theorem dJ5_init_a7421_49 : decode cJ5_init_a7421 49 = .ok (.iload_n 3, 1) := by decide +kernel
theorem dJ5_init_a7421_50 : decode cJ5_init_a7421 50 = .ok (.invokestatic 26, 3) := by decide +kernel
theorem dJ5_init_a7421_53 : decode cJ5_init_a7421 53 = .ok (.putfield 15, 3) := by decide +kernel
theorem dJ5_init_a7421_56 : decode cJ5_init_a7421 56 = .ok (.aload_n 0, 1) := by decide +kernel
theorem dJ5_init_a7421_57 : decode cJ5_init_a7421 57 = .ok (.aload_n 1, 1) := by decide +kernel
theorem dJ5_init_a7421_58 : decode cJ5_init_a7421 58 = .ok (.invokevirtual 43, 3) := by decide +kernel
theorem dJ5_init_a7421_61 : decode cJ5_init_a7421 61 = .ok (.pop, 1) := by decide +kernel
theorem dJ5_init_a7421_62 : decode cJ5_init_a7421 62 = .ok (.return_, 1) := by decide +kernel
theorem dJ5_length_8abf5_0 : decode cJ5_length_8abf5 0 = .ok (.aload_n 0, 1) := by decide +kernel
theorem dJ5_length_8abf5_1 : decode cJ5_length_8abf5 1 = .ok (.getfield 79, 3) := by decide +kernel
theorem dJ5_length_8abf5_4 : decode cJ5_length_8abf5 4 = .ok (.ireturn, 1) := by decide +kernel
theorem dJ5_ensureCapacityInternal_d00df_0 : decode cJ5_ensureCapacityInternal_d00df 0 = .ok (.aload_n 0, 1) := by decide +kernel
theorem dJ5_ensureCapacityInternal_d00df_1 : decode cJ5_ensureCapacityInternal_d00df 1 = .ok (.getfield 15, 3) := by decide +kernel
theorem dJ5_ensureCapacityInternal_d00df_4 : decode cJ5_ensureCapacityInternal_d00df 4 = .ok (.arraylength, 1) := by decide +kernel
theorem dJ5_ensureCapacityInternal_d00df_5 : decode cJ5_ensureCapacityInternal_d00df 5 = .ok (.aload_n 0, 1) := by decide +kernel
theorem dJ5_ensureCapacityInternal_d00df_6 : decode cJ5_ensureCapacityInternal_d00df 6 = .ok (.getfield 22, 3) := by decide +kernel
theorem dJ5_ensureCapacityInternal_d00df_9 : decode cJ5_ensureCapacityInternal_d00df 9 = .ok (.ishr, 1) := by decide +kernel
theorem dJ5_ensureCapacityInternal_d00df_10 : decode cJ5_ensureCapacityInternal_d00df 10 = .ok (.istore_n 2, 1) := by decide +kernel
theorem dJ5_ensureCapacityInternal_d00df_11 : decode cJ5_ensureCapacityInternal_d00df 11 = .ok (.iload_n 1, 1) := by decide +kernel
theorem dJ5_ensureCapacityInternal_d00df_12 : decode cJ5_ensureCapacityInternal_d00df 12 = .ok (.iload_n 2, 1) := by decide +kernel
theorem dJ5_ensureCapacityInternal_d00df_13 : decode cJ5_ensureCapacityInternal_d00df 13 = .ok (.isub, 1) := by decide +kernel
theorem dJ5_ensureCapacityInternal_d00df_14 : decode cJ5_ensureCapacityInternal_d00df 14 = .ok (.ifCond .le 24, 3) := by decide +kernel
theorem dJ5_ensureCapacityInternal_d00df_17 : decode cJ5_ensureCapacityInternal_d00df 17 = .ok (.aload_n 0, 1) := by decide +kernel
theorem dJ5_ensureCapacityInternal_d00df_18 : decode cJ5_ensureCapacityInternal_d00df 18 = .ok (.aload_n 0, 1) := by decide +kernel
theorem dJ5_ensureCapacityInternal_d00df_19 : decode cJ5_ensureCapacityInternal_d00df 19 = .ok (.getfield 15, 3) := by decide +kernel
theorem dJ5_ensureCapacityInternal_d00df_22 : decode cJ5_ensureCapacityInternal_d00df 22 = .ok (.aload_n 0, 1) := by decide +kernel
theorem dJ5_ensureCapacityInternal_d00df_23 : decode cJ5_ensureCapacityInternal_d00df 23 = .ok (.iload_n 1, 1) := by decide +kernel
theorem dJ5_ensureCapacityInternal_d00df_24 : decode cJ5_ensureCapacityInternal_d00df 24 = .ok (.invokevirtual 104, 3) := by decide +kernel
theorem dJ5_ensureCapacityInternal_d00df_27 : decode cJ5_ensureCapacityInternal_d00df 27 = .ok (.aload_n 0, 1) := by decide +kernel
theorem dJ5_ensureCapacityInternal_d00df_28 : decode cJ5_ensureCapacityInternal_d00df 28 = .ok (.getfield 22, 3) := by decide +kernel
theorem dJ5_ensureCapacityInternal_d00df_31 : decode cJ5_ensureCapacityInternal_d00df 31 = .ok (.ishl, 1) := by decide +kernel
theorem dJ5_ensureCapacityInternal_d00df_32 : decode cJ5_ensureCapacityInternal_d00df 32 = .ok (.invokestatic 108, 3) := by decide +kernel
theorem dJ5_ensureCapacityInternal_d00df_35 : decode cJ5_ensureCapacityInternal_d00df 35 = .ok (.putfield 15, 3) := by decide +kernel
theorem dJ5_ensureCapacityInternal_d00df_38 : decode cJ5_ensureCapacityInternal_d00df 38 = .ok (.return_, 1) := by decide +kernel
theorem dJ5_newCapacity_0f7a4_0 : decode cJ5_newCapacity_0f7a4 0 = .ok (.aload_n 0, 1) := by decide +kernel
theorem dJ5_newCapacity_0f7a4_1 : decode cJ5_newCapacity_0f7a4 1 = .ok (.getfield 15, 3) := by decide +kernel
theorem dJ5_newCapacity_0f7a4_4 : decode cJ5_newCapacity_0f7a4 4 = .ok (.arraylength, 1) := by decide +kernel
theorem dJ5_newCapacity_0f7a4_5 : decode cJ5_newCapacity_0f7a4 5 = .ok (.istore_n 2, 1) := by decide +kernel
theorem dJ5_newCapacity_0f7a4_6 : decode cJ5_newCapacity_0f7a4 6 = .ok (.iload_n 1, 1) := by decide +kernel
theorem dJ5_newCapacity_0f7a4_7 : decode cJ5_newCapacity_0f7a4 7 = .ok (.aload_n 0, 1) := by decide +kernel
theorem dJ5_newCapacity_0f7a4_8 : decode cJ5_newCapacity_0f7a4 8 = .ok (.getfield 22, 3) := by decide +kernel
theorem dJ5_newCapacity_0f7a4_11 : decode cJ5_newCapacity_0f7a4 11 = .ok (.ishl, 1) := by decide +kernel
theorem dJ5_newCapacity_0f7a4_12 : decode cJ5_newCapacity_0f7a4 12 = .ok (.istore_n 3, 1) := by decide +kernel
theorem dJ5_newCapacity_0f7a4_13 : decode cJ5_newCapacity_0f7a4 13 = .ok (.iload_n 3, 1) := by decide +kernel
theorem dJ5_newCapacity_0f7a4_14 : decode cJ5_newCapacity_0f7a4 14 = .ok (.iload_n 2, 1) := by decide +kernel
theorem dJ5_newCapacity_0f7a4_15 : decode cJ5_newCapacity_0f7a4 15 = .ok (.isub, 1) := by decide +kernel
theorem dJ5_newCapacity_0f7a4_16 : decode cJ5_newCapacity_0f7a4 16 = .ok (.istore 4, 2) := by decide +kernel
theorem dJ5_newCapacity_0f7a4_18 : decode cJ5_newCapacity_0f7a4 18 = .ok (.iload_n 2, 1) := by decide +kernel
theorem dJ5_newCapacity_0f7a4_19 : decode cJ5_newCapacity_0f7a4 19 = .ok (.iload 4, 2) := by decide +kernel
theorem dJ5_newCapacity_0f7a4_21 : decode cJ5_newCapacity_0f7a4 21 = .ok (.iload_n 2, 1) := by decide +kernel
theorem dJ5_newCapacity_0f7a4_22 : decode cJ5_newCapacity_0f7a4 22 = .ok (.iconst 2, 1) := by decide +kernel
theorem dJ5_newCapacity_0f7a4_23 : decode cJ5_newCapacity_0f7a4 23 = .ok (.aload_n 0, 1) := by decide +kernel
theorem dJ5_newCapacity_0f7a4_24 : decode cJ5_newCapacity_0f7a4 24 = .ok (.getfield 22, 3) := by decide +kernel
theorem dJ5_newCapacity_0f7a4_27 : decode cJ5_newCapacity_0f7a4 27 = .ok (.ishl, 1) := by decide +kernel
theorem dJ5_newCapacity_0f7a4_28 : decode cJ5_newCapacity_0f7a4 28 = .ok (.iadd, 1) := by decide +kernel
theorem dJ5_newCapacity_0f7a4_29 : decode cJ5_newCapacity_0f7a4 29 = .ok (.invokestatic 114, 3) := by decide +kernel
theorem dJ5_newCapacity_0f7a4_32 : decode cJ5_newCapacity_0f7a4 32 = .ok (.istore 5, 2) := by decide +kernel
theorem dJ5_newCapacity_0f7a4_34 : decode cJ5_newCapacity_0f7a4 34 = .ok (.iload 5, 2) := by decide +kernel
theorem dJ5_newCapacity_0f7a4_36 : decode cJ5_newCapacity_0f7a4 36 = .ok (.ldc 39, 2) := by decide +kernel
theorem dJ5_newCapacity_0f7a4_38 : decode cJ5_newCapacity_0f7a4 38 = .ok (.if_icmp .ne 13, 3) := by decide +kernel
theorem dJ5_newCapacity_0f7a4_41 : decode cJ5_newCapacity_0f7a4 41 = .ok (.new 120, 3) := by decide +kernel
theorem dJ5_newCapacity_0f7a4_44 : decode cJ5_newCapacity_0f7a4 44 = .ok (.dup, 1) := by decide +kernel
theorem dJ5_newCapacity_0f7a4_45 : decode cJ5_newCapacity_0f7a4 45 = .ok (.ldc 122, 2) := by decide +kernel
theorem dJ5_newCapacity_0f7a4_47 : decode cJ5_newCapacity_0f7a4 47 = .ok (.invokespecial 124, 3) := by decide +kernel
theorem dJ5_newCapacity_0f7a4_50 : decode cJ5_newCapacity_0f7a4 50 = .ok (.athrow, 1) := by decide +kernel
theorem dJ5_newCapacity_0f7a4_51 : decode cJ5_newCapacity_0f7a4 51 = .ok (.iload 5, 2) := by decide +kernel
theorem dJ5_newCapacity_0f7a4_53 : decode cJ5_newCapacity_0f7a4 53 = .ok (.aload_n 0, 1) := by decide +kernel
theorem dJ5_newCapacity_0f7a4_54 : decode cJ5_newCapacity_0f7a4 54 = .ok (.getfield 22, 3) := by decide +kernel
theorem dJ5_newCapacity_0f7a4_57 : decode cJ5_newCapacity_0f7a4 57 = .ok (.ishr, 1) := by decide +kernel
theorem dJ5_newCapacity_0f7a4_58 : decode cJ5_newCapacity_0f7a4 58 = .ok (.ireturn, 1) := by decide +kernel
theorem dJ5_inflate_da8c8_0 : decode cJ5_inflate_da8c8 0 = .ok (.aload_n 0, 1) := by decide +kernel
theorem dJ5_inflate_da8c8_1 : decode cJ5_inflate_da8c8 1 = .ok (.invokevirtual 83, 3) := by decide +kernel
theorem dJ5_inflate_da8c8_4 : decode cJ5_inflate_da8c8 4 = .ok (.ifCond .ne 4, 3) := by decide +kernel
theorem dJ5_inflate_da8c8_7 : decode cJ5_inflate_da8c8 7 = .ok (.return_, 1) := by decide +kernel
theorem dJ5_inflate_da8c8_8 : decode cJ5_inflate_da8c8 8 = .ok (.aload_n 0, 1) := by decide +kernel
theorem dJ5_inflate_da8c8_9 : decode cJ5_inflate_da8c8 9 = .ok (.getfield 15, 3) := by decide +kernel
theorem dJ5_inflate_da8c8_12 : decode cJ5_inflate_da8c8 12 = .ok (.arraylength, 1) := by decide +kernel
theorem dJ5_inflate_da8c8_13 : decode cJ5_inflate_da8c8 13 = .ok (.invokestatic 26, 3) := by decide +kernel
theorem dJ5_inflate_da8c8_16 : decode cJ5_inflate_da8c8 16 = .ok (.astore_n 1, 1) := by decide +kernel
theorem dJ5_inflate_da8c8_17 : decode cJ5_inflate_da8c8 17 = .ok (.aload_n 0, 1) := by decide +kernel
theorem dJ5_inflate_da8c8_18 : decode cJ5_inflate_da8c8 18 = .ok (.getfield 15, 3) := by decide +kernel
theorem dJ5_inflate_da8c8_21 : decode cJ5_inflate_da8c8 21 = .ok (.iconst 0, 1) := by decide +kernel
theorem dJ5_inflate_da8c8_22 : decode cJ5_inflate_da8c8 22 = .ok (.aload_n 1, 1) := by decide +kernel
theorem dJ5_inflate_da8c8_23 : decode cJ5_inflate_da8c8 23 = .ok (.iconst 0, 1) := by decide +kernel
theorem dJ5_inflate_da8c8_24 : decode cJ5_inflate_da8c8 24 = .ok (.aload_n 0, 1) := by decide +kernel
theorem dJ5_inflate_da8c8_25 : decode cJ5_inflate_da8c8 25 = .ok (.getfield 79, 3) := by decide +kernel
theorem dJ5_inflate_da8c8_28 : decode cJ5_inflate_da8c8 28 = .ok (.invokestatic 125, 3) := by decide +kernel
theorem dJ5_inflate_da8c8_31 : decode cJ5_inflate_da8c8 31 = .ok (.aload_n 0, 1) := by decide +kernel
theorem dJ5_inflate_da8c8_32 : decode cJ5_inflate_da8c8 32 = .ok (.aload_n 1, 1) := by decide +kernel
theorem dJ5_inflate_da8c8_33 : decode cJ5_inflate_da8c8 33 = .ok (.putfield 15, 3) := by decide +kernel
theorem dJ5_inflate_da8c8_36 : decode cJ5_inflate_da8c8 36 = .ok (.aload_n 0, 1) := by decide +kernel
theorem dJ5_inflate_da8c8_37 : decode cJ5_inflate_da8c8 37 = .ok (.iconst 1, 1) := by decide +kernel
theorem dJ5_inflate_da8c8_38 : decode cJ5_inflate_da8c8 38 = .ok (.putfield 22, 3) := by decide +kernel
theorem dJ5_inflate_da8c8_41 : decode cJ5_inflate_da8c8 41 = .ok (.return_, 1) := by decide +kernel
theorem dJ5_append_cf1ce_0 : decode cJ5_append_cf1ce 0 = .ok (.aload_n 1, 1) := by decide +kernel
theorem dJ5_append_cf1ce_1 : decode cJ5_append_cf1ce 1 = .ok (.ifnonnull 8, 3) := by decide +kernel
theorem dJ5_append_cf1ce_4 : decode cJ5_append_cf1ce 4 = .ok (.aload_n 0, 1) := by decide +kernel
theorem dJ5_append_cf1ce_5 : decode cJ5_append_cf1ce 5 = .ok (.invokevirtual 204, 3) := by decide +kernel
theorem dJ5_append_cf1ce_8 : decode cJ5_append_cf1ce 8 = .ok (.areturn, 1) := by decide +kernel
theorem dJ5_append_cf1ce_9 : decode cJ5_append_cf1ce 9 = .ok (.aload_n 1, 1) := by decide +kernel
theorem dJ5_append_cf1ce_10 : decode cJ5_append_cf1ce 10 = .ok (.invokevirtual 32, 3) := by decide +kernel
theorem dJ5_append_cf1ce_13 : decode cJ5_append_cf1ce 13 = .ok (.istore_n 2, 1) := by decide +kernel
theorem dJ5_append_cf1ce_14 : decode cJ5_append_cf1ce 14 = .ok (.aload_n 0, 1) := by decide +kernel
theorem dJ5_append_cf1ce_15 : decode cJ5_append_cf1ce 15 = .ok (.aload_n 0, 1) := by decide +kernel
theorem dJ5_append_cf1ce_16 : decode cJ5_append_cf1ce 16 = .ok (.getfield 79, 3) := by decide +kernel
theorem dJ5_append_cf1ce_19 : decode cJ5_append_cf1ce 19 = .ok (.iload_n 2, 1) := by decide +kernel
theorem dJ5_append_cf1ce_20 : decode cJ5_append_cf1ce 20 = .ok (.iadd, 1) := by decide +kernel
theorem dJ5_append_cf1ce_21 : decode cJ5_append_cf1ce 21 = .ok (.invokevirtual 100, 3) := by decide +kernel
theorem dJ5_append_cf1ce_24 : decode cJ5_append_cf1ce 24 = .ok (.aload_n 0, 1) := by decide +kernel
theorem dJ5_append_cf1ce_25 : decode cJ5_append_cf1ce 25 = .ok (.aload_n 0, 1) := by decide +kernel
theorem dJ5_append_cf1ce_26 : decode cJ5_append_cf1ce 26 = .ok (.getfield 79, 3) := by decide +kernel
theorem dJ5_append_cf1ce_29 : decode cJ5_append_cf1ce 29 = .ok (.aload_n 1, 1) := by decide +kernel
theorem dJ5_append_cf1ce_30 : decode cJ5_append_cf1ce 30 = .ok (.invokevirtual 208, 3) := by decide +kernel
theorem dJ5_append_cf1ce_33 : decode cJ5_append_cf1ce 33 = .ok (.aload_n 0, 1) := by decide +kernel
theorem dJ5_append_cf1ce_34 : decode cJ5_append_cf1ce 34 = .ok (.dup, 1) := by decide +kernel
theorem dJ5_append_cf1ce_35 : decode cJ5_append_cf1ce 35 = .ok (.getfield 79, 3) := by decide +kernel
theorem dJ5_append_cf1ce_38 : decode cJ5_append_cf1ce 38 = .ok (.iload_n 2, 1) := by decide +kernel
theorem dJ5_append_cf1ce_39 : decode cJ5_append_cf1ce 39 = .ok (.iadd, 1) := by decide +kernel
theorem dJ5_append_cf1ce_40 : decode cJ5_append_cf1ce 40 = .ok (.putfield 79, 3) := by decide +kernel
theorem dJ5_append_cf1ce_43 : decode cJ5_append_cf1ce 43 = .ok (.aload_n 0, 1) := by decide +kernel
theorem dJ5_append_cf1ce_44 : decode cJ5_append_cf1ce 44 = .ok (.areturn, 1) := by decide +kernel
theorem dJ5_appendNull_278bc_0 : decode cJ5_appendNull_278bc 0 = .ok (.aload_n 0, 1) := by decide +kernel
theorem dJ5_appendNull_278bc_1 : decode cJ5_appendNull_278bc 1 = .ok (.aload_n 0, 1) := by decide +kernel
theorem dJ5_appendNull_278bc_2 : decode cJ5_appendNull_278bc 2 = .ok (.getfield 79, 3) := by decide +kernel
theorem dJ5_appendNull_278bc_5 : decode cJ5_appendNull_278bc 5 = .ok (.iconst 4, 1) := by decide +kernel
theorem dJ5_appendNull_278bc_6 : decode cJ5_appendNull_278bc 6 = .ok (.iadd, 1) := by decide +kernel
theorem dJ5_appendNull_278bc_7 : decode cJ5_appendNull_278bc 7 = .ok (.invokevirtual 100, 3) := by decide +kernel
theorem dJ5_appendNull_278bc_10 : decode cJ5_appendNull_278bc 10 = .ok (.aload_n 0, 1) := by decide +kernel
theorem dJ5_appendNull_278bc_11 : decode cJ5_appendNull_278bc 11 = .ok (.getfield 79, 3) := by decide +kernel
theorem dJ5_appendNull_278bc_14 : decode cJ5_appendNull_278bc 14 = .ok (.istore_n 1, 1) := by decide +kernel
theorem dJ5_appendNull_278bc_15 : decode cJ5_appendNull_278bc 15 = .ok (.aload_n 0, 1) := by decide +kernel
theorem dJ5_appendNull_278bc_16 : decode cJ5_appendNull_278bc 16 = .ok (.getfield 15, 3) := by decide +kernel
theorem dJ5_appendNull_278bc_19 : decode cJ5_appendNull_278bc 19 = .ok (.astore_n 2, 1) := by decide +kernel
theorem dJ5_appendNull_278bc_20 : decode cJ5_appendNull_278bc 20 = .ok (.aload_n 0, 1) := by decide +kernel
theorem dJ5_appendNull_278bc_21 : decode cJ5_appendNull_278bc 21 = .ok (.invokevirtual 83, 3) := by decide +kernel
theorem dJ5_appendNull_278bc_24 : decode cJ5_appendNull_278bc 24 = .ok (.ifCond .eq 38, 3) := by decide +kernel
theorem dJ5_appendNull_278bc_27 : decode cJ5_appendNull_278bc 27 = .ok (.aload_n 2, 1) := by decide +kernel
theorem dJ5_appendNull_278bc_28 : decode cJ5_appendNull_278bc 28 = .ok (.iload_n 1, 1) := by decide +kernel
theorem dJ5_appendNull_278bc_29 : decode cJ5_appendNull_278bc 29 = .ok (.iinc 1 1, 3) := by decide +kernel
theorem dJ5_appendNull_278bc_32 : decode cJ5_appendNull_278bc 32 = .ok (.bipush 110, 2) := by decide +kernel
theorem dJ5_appendNull_278bc_34 : decode cJ5_appendNull_278bc 34 = .ok (.bastore, 1) := by decide +kernel
theorem dJ5_appendNull_278bc_35 : decode cJ5_appendNull_278bc 35 = .ok (.aload_n 2, 1) := by decide +kernel
theorem dJ5_appendNull_278bc_36 : decode cJ5_appendNull_278bc 36 = .ok (.iload_n 1, 1) := by decide +kernel
theorem dJ5_appendNull_278bc_37 : decode cJ5_appendNull_278bc 37 = .ok (.iinc 1 1, 3) := by decide +kernel
theorem dJ5_appendNull_278bc_40 : decode cJ5_appendNull_278bc 40 = .ok (.bipush 117, 2) := by decide +kernel
theorem dJ5_appendNull_278bc_42 : decode cJ5_appendNull_278bc 42 = .ok (.bastore, 1) := by decide +kernel
theorem dJ5_appendNull_278bc_43 : decode cJ5_appendNull_278bc 43 = .ok (.aload_n 2, 1) := by decide +kernel
theorem dJ5_appendNull_278bc_44 : decode cJ5_appendNull_278bc 44 = .ok (.iload_n 1, 1) := by decide +kernel
theorem dJ5_appendNull_278bc_45 : decode cJ5_appendNull_278bc 45 = .ok (.iinc 1 1, 3) := by decide +kernel
theorem dJ5_appendNull_278bc_48 : decode cJ5_appendNull_278bc 48 = .ok (.bipush 108, 2) := by decide +kernel
theorem dJ5_appendNull_278bc_50 : decode cJ5_appendNull_278bc 50 = .ok (.bastore, 1) := by decide +kernel
theorem dJ5_appendNull_278bc_51 : decode cJ5_appendNull_278bc 51 = .ok (.aload_n 2, 1) := by decide +kernel
theorem dJ5_appendNull_278bc_52 : decode cJ5_appendNull_278bc 52 = .ok (.iload_n 1, 1) := by decide +kernel
theorem dJ5_appendNull_278bc_53 : decode cJ5_appendNull_278bc 53 = .ok (.iinc 1 1, 3) := by decide +kernel
theorem dJ5_appendNull_278bc_56 : decode cJ5_appendNull_278bc 56 = .ok (.bipush 108, 2) := by decide +kernel
theorem dJ5_appendNull_278bc_58 : decode cJ5_appendNull_278bc 58 = .ok (.bastore, 1) := by decide +kernel
theorem dJ5_appendNull_278bc_59 : decode cJ5_appendNull_278bc 59 = .ok (.goto 17, 3) := by decide +kernel
theorem dJ5_appendNull_278bc_62 : decode cJ5_appendNull_278bc 62 = .ok (.aload_n 2, 1) := by decide +kernel
theorem dJ5_appendNull_278bc_63 : decode cJ5_appendNull_278bc 63 = .ok (.iload_n 1, 1) := by decide +kernel
theorem dJ5_appendNull_278bc_64 : decode cJ5_appendNull_278bc 64 = .ok (.bipush 110, 2) := by decide +kernel
theorem dJ5_appendNull_278bc_66 : decode cJ5_appendNull_278bc 66 = .ok (.bipush 117, 2) := by decide +kernel
theorem dJ5_appendNull_278bc_68 : decode cJ5_appendNull_278bc 68 = .ok (.bipush 108, 2) := by decide +kernel
theorem dJ5_appendNull_278bc_70 : decode cJ5_appendNull_278bc 70 = .ok (.bipush 108, 2) := by decide +kernel
theorem dJ5_appendNull_278bc_72 : decode cJ5_appendNull_278bc 72 = .ok (.invokestatic 226, 3) := by decide +kernel
theorem dJ5_appendNull_278bc_75 : decode cJ5_appendNull_278bc 75 = .ok (.istore_n 1, 1) := by decide +kernel
theorem dJ5_appendNull_278bc_76 : decode cJ5_appendNull_278bc 76 = .ok (.aload_n 0, 1) := by decide +kernel
theorem dJ5_appendNull_278bc_77 : decode cJ5_appendNull_278bc 77 = .ok (.iload_n 1, 1) := by decide +kernel
theorem dJ5_appendNull_278bc_78 : decode cJ5_appendNull_278bc 78 = .ok (.putfield 79, 3) := by decide +kernel
theorem dJ5_appendNull_278bc_81 : decode cJ5_appendNull_278bc 81 = .ok (.aload_n 0, 1) := by decide +kernel
theorem dJ5_appendNull_278bc_82 : decode cJ5_appendNull_278bc 82 = .ok (.areturn, 1) := by decide +kernel
theorem dJ5_append_3fe6f_0 : decode cJ5_append_3fe6f 0 = .ok (.aload_n 0, 1) := by decide +kernel
theorem dJ5_append_3fe6f_1 : decode cJ5_append_3fe6f 1 = .ok (.aload_n 0, 1) := by decide +kernel
theorem dJ5_append_3fe6f_2 : decode cJ5_append_3fe6f 2 = .ok (.getfield 79, 3) := by decide +kernel
theorem dJ5_append_3fe6f_5 : decode cJ5_append_3fe6f 5 = .ok (.iconst 1, 1) := by decide +kernel
theorem dJ5_append_3fe6f_6 : decode cJ5_append_3fe6f 6 = .ok (.iadd, 1) := by decide +kernel
theorem dJ5_append_3fe6f_7 : decode cJ5_append_3fe6f 7 = .ok (.invokevirtual 100, 3) := by decide +kernel
theorem dJ5_append_3fe6f_10 : decode cJ5_append_3fe6f 10 = .ok (.aload_n 0, 1) := by decide +kernel
theorem dJ5_append_3fe6f_11 : decode cJ5_append_3fe6f 11 = .ok (.invokevirtual 83, 3) := by decide +kernel
theorem dJ5_append_3fe6f_14 : decode cJ5_append_3fe6f 14 = .ok (.ifCond .eq 31, 3) := by decide +kernel
theorem dJ5_append_3fe6f_17 : decode cJ5_append_3fe6f 17 = .ok (.iload_n 1, 1) := by decide +kernel
theorem dJ5_append_3fe6f_18 : decode cJ5_append_3fe6f 18 = .ok (.invokestatic 191, 3) := by decide +kernel
theorem dJ5_append_3fe6f_21 : decode cJ5_append_3fe6f 21 = .ok (.ifCond .eq 24, 3) := by decide +kernel
theorem dJ5_append_3fe6f_24 : decode cJ5_append_3fe6f 24 = .ok (.aload_n 0, 1) := by decide +kernel
theorem dJ5_append_3fe6f_25 : decode cJ5_append_3fe6f 25 = .ok (.getfield 15, 3) := by decide +kernel
theorem dJ5_append_3fe6f_28 : decode cJ5_append_3fe6f 28 = .ok (.aload_n 0, 1) := by decide +kernel
theorem dJ5_append_3fe6f_29 : decode cJ5_append_3fe6f 29 = .ok (.dup, 1) := by decide +kernel
theorem dJ5_append_3fe6f_30 : decode cJ5_append_3fe6f 30 = .ok (.getfield 79, 3) := by decide +kernel
theorem dJ5_append_3fe6f_33 : decode cJ5_append_3fe6f 33 = .ok (.dup_x1, 1) := by decide +kernel
theorem dJ5_append_3fe6f_34 : decode cJ5_append_3fe6f 34 = .ok (.iconst 1, 1) := by decide +kernel
theorem dJ5_append_3fe6f_35 : decode cJ5_append_3fe6f 35 = .ok (.iadd, 1) := by decide +kernel
theorem dJ5_append_3fe6f_36 : decode cJ5_append_3fe6f 36 = .ok (.putfield 79, 3) := by decide +kernel
theorem dJ5_append_3fe6f_39 : decode cJ5_append_3fe6f 39 = .ok (.iload_n 1, 1) := by decide +kernel
theorem dJ5_append_3fe6f_40 : decode cJ5_append_3fe6f 40 = .ok (.i2b, 1) := by decide +kernel
theorem dJ5_append_3fe6f_41 : decode cJ5_append_3fe6f 41 = .ok (.bastore, 1) := by decide +kernel
theorem dJ5_append_3fe6f_42 : decode cJ5_append_3fe6f 42 = .ok (.goto 33, 3) := by decide +kernel
theorem dJ5_append_3fe6f_45 : decode cJ5_append_3fe6f 45 = .ok (.aload_n 0, 1) := by decide +kernel
theorem dJ5_append_3fe6f_46 : decode cJ5_append_3fe6f 46 = .ok (.invokevirtual 83, 3) := by decide +kernel
theorem dJ5_append_3fe6f_49 : decode cJ5_append_3fe6f 49 = .ok (.ifCond .eq 7, 3) := by decide +kernel
theorem dJ5_append_3fe6f_52 : decode cJ5_append_3fe6f 52 = .ok (.aload_n 0, 1) := by decide +kernel
theorem dJ5_append_3fe6f_53 : decode cJ5_append_3fe6f 53 = .ok (.invokevirtual 195, 3) := by decide +kernel
theorem dJ5_append_3fe6f_56 : decode cJ5_append_3fe6f 56 = .ok (.aload_n 0, 1) := by decide +kernel
theorem dJ5_append_3fe6f_57 : decode cJ5_append_3fe6f 57 = .ok (.getfield 15, 3) := by decide +kernel
theorem dJ5_append_3fe6f_60 : decode cJ5_append_3fe6f 60 = .ok (.aload_n 0, 1) := by decide +kernel
theorem dJ5_append_3fe6f_61 : decode cJ5_append_3fe6f 61 = .ok (.dup, 1) := by decide +kernel
theorem dJ5_append_3fe6f_62 : decode cJ5_append_3fe6f 62 = .ok (.getfield 79, 3) := by decide +kernel
theorem dJ5_append_3fe6f_65 : decode cJ5_append_3fe6f 65 = .ok (.dup_x1, 1) := by decide +kernel
theorem dJ5_append_3fe6f_66 : decode cJ5_append_3fe6f 66 = .ok (.iconst 1, 1) := by decide +kernel
theorem dJ5_append_3fe6f_67 : decode cJ5_append_3fe6f 67 = .ok (.iadd, 1) := by decide +kernel
theorem dJ5_append_3fe6f_68 : decode cJ5_append_3fe6f 68 = .ok (.putfield 79, 3) := by decide +kernel
theorem dJ5_append_3fe6f_71 : decode cJ5_append_3fe6f 71 = .ok (.iload_n 1, 1) := by decide +kernel
theorem dJ5_append_3fe6f_72 : decode cJ5_append_3fe6f 72 = .ok (.invokestatic 197, 3) := by decide +kernel
theorem dJ5_append_3fe6f_75 : decode cJ5_append_3fe6f 75 = .ok (.aload_n 0, 1) := by decide +kernel
theorem dJ5_append_3fe6f_76 : decode cJ5_append_3fe6f 76 = .ok (.areturn, 1) := by decide +kernel
theorem dJ5_append_c97b9_0 : decode cJ5_append_c97b9 0 = .ok (.aload_n 0, 1) := by decide +kernel
theorem dJ5_append_c97b9_1 : decode cJ5_append_c97b9 1 = .ok (.getfield 79, 3) := by decide +kernel
theorem dJ5_append_c97b9_4 : decode cJ5_append_c97b9 4 = .ok (.istore_n 2, 1) := by decide +kernel
theorem dJ5_append_c97b9_5 : decode cJ5_append_c97b9 5 = .ok (.iload_n 2, 1) := by decide +kernel
theorem dJ5_append_c97b9_6 : decode cJ5_append_c97b9 6 = .ok (.iload_n 1, 1) := by decide +kernel
theorem dJ5_append_c97b9_7 : decode cJ5_append_c97b9 7 = .ok (.invokestatic 245, 3) := by decide +kernel
theorem dJ5_append_c97b9_10 : decode cJ5_append_c97b9 10 = .ok (.iadd, 1) := by decide +kernel
theorem dJ5_append_c97b9_11 : decode cJ5_append_c97b9 11 = .ok (.istore_n 3, 1) := by decide +kernel
theorem dJ5_append_c97b9_12 : decode cJ5_append_c97b9 12 = .ok (.aload_n 0, 1) := by decide +kernel
theorem dJ5_append_c97b9_13 : decode cJ5_append_c97b9 13 = .ok (.iload_n 3, 1) := by decide +kernel
theorem dJ5_append_c97b9_14 : decode cJ5_append_c97b9 14 = .ok (.invokevirtual 100, 3) := by decide +kernel
theorem dJ5_append_c97b9_17 : decode cJ5_append_c97b9 17 = .ok (.aload_n 0, 1) := by decide +kernel
theorem dJ5_append_c97b9_18 : decode cJ5_append_c97b9 18 = .ok (.invokevirtual 83, 3) := by decide +kernel
theorem dJ5_append_c97b9_21 : decode cJ5_append_c97b9 21 = .ok (.ifCond .eq 16, 3) := by decide +kernel
theorem dJ5_append_c97b9_24 : decode cJ5_append_c97b9 24 = .ok (.iload_n 1, 1) := by decide +kernel
theorem dJ5_append_c97b9_25 : decode cJ5_append_c97b9 25 = .ok (.iload_n 3, 1) := by decide +kernel
theorem dJ5_append_c97b9_26 : decode cJ5_append_c97b9 26 = .ok (.aload_n 0, 1) := by decide +kernel
theorem dJ5_append_c97b9_27 : decode cJ5_append_c97b9 27 = .ok (.getfield 15, 3) := by decide +kernel
theorem dJ5_append_c97b9_30 : decode cJ5_append_c97b9 30 = .ok (.invokestatic 248, 3) := by decide +kernel
theorem dJ5_append_c97b9_33 : decode cJ5_append_c97b9 33 = .ok (.pop, 1) := by decide +kernel
theorem dJ5_append_c97b9_34 : decode cJ5_append_c97b9 34 = .ok (.goto 14, 3) := by decide +kernel
theorem dJ5_append_c97b9_37 : decode cJ5_append_c97b9 37 = .ok (.iload_n 1, 1) := by decide +kernel
theorem dJ5_append_c97b9_38 : decode cJ5_append_c97b9 38 = .ok (.iload_n 2, 1) := by decide +kernel
theorem dJ5_append_c97b9_39 : decode cJ5_append_c97b9 39 = .ok (.iload_n 3, 1) := by decide +kernel
theorem dJ5_append_c97b9_40 : decode cJ5_append_c97b9 40 = .ok (.aload_n 0, 1) := by decide +kernel
theorem dJ5_append_c97b9_41 : decode cJ5_append_c97b9 41 = .ok (.getfield 15, 3) := by decide +kernel
theorem dJ5_append_c97b9_44 : decode cJ5_append_c97b9 44 = .ok (.invokestatic 251, 3) := by decide +kernel
theorem dJ5_append_c97b9_47 : decode cJ5_append_c97b9 47 = .ok (.pop, 1) := by decide +kernel
theorem dJ5_append_c97b9_48 : decode cJ5_append_c97b9 48 = .ok (.aload_n 0, 1) := by decide +kernel
theorem dJ5_append_c97b9_49 : decode cJ5_append_c97b9 49 = .ok (.iload_n 3, 1) := by decide +kernel
theorem dJ5_append_c97b9_50 : decode cJ5_append_c97b9 50 = .ok (.putfield 79, 3) := by decide +kernel
theorem dJ5_append_c97b9_53 : decode cJ5_append_c97b9 53 = .ok (.aload_n 0, 1) := by decide +kernel
theorem dJ5_append_c97b9_54 : decode cJ5_append_c97b9 54 = .ok (.areturn, 1) := by decide +kernel
theorem dJ5_getValue_6d5f1_0 : decode cJ5_getValue_6d5f1 0 = .ok (.aload_n 0, 1) := by decide +kernel
theorem dJ5_getValue_6d5f1_1 : decode cJ5_getValue_6d5f1 1 = .ok (.getfield 15, 3) := by decide +kernel
theorem dJ5_getValue_6d5f1_4 : decode cJ5_getValue_6d5f1 4 = .ok (.areturn, 1) := by decide +kernel
theorem dJ5_isLatin1_aae02_0 : decode cJ5_isLatin1_aae02 0 = .ok (.getstatic 18, 3) := by decide +kernel
theorem dJ5_isLatin1_aae02_3 : decode cJ5_isLatin1_aae02 3 = .ok (.ifCond .eq 14, 3) := by decide +kernel
theorem dJ5_isLatin1_aae02_6 : decode cJ5_isLatin1_aae02 6 = .ok (.aload_n 0, 1) := by decide +kernel
theorem dJ5_isLatin1_aae02_7 : decode cJ5_isLatin1_aae02 7 = .ok (.getfield 22, 3) := by decide +kernel
theorem dJ5_isLatin1_aae02_10 : decode cJ5_isLatin1_aae02 10 = .ok (.ifCond .ne 7, 3) := by decide +kernel
theorem dJ5_isLatin1_aae02_13 : decode cJ5_isLatin1_aae02 13 = .ok (.iconst 1, 1) := by decide +kernel
theorem dJ5_isLatin1_aae02_14 : decode cJ5_isLatin1_aae02 14 = .ok (.goto 4, 3) := by decide +kernel
theorem dJ5_isLatin1_aae02_17 : decode cJ5_isLatin1_aae02 17 = .ok (.iconst 0, 1) := by decide +kernel
theorem dJ5_isLatin1_aae02_18 : decode cJ5_isLatin1_aae02 18 = .ok (.ireturn, 1) := by decide +kernel
theorem dJ5_inflateIfNeededFor_a7421_0 : decode cJ5_inflateIfNeededFor_a7421 0 = .ok (.getstatic 18, 3) := by decide +kernel
theorem dJ5_inflateIfNeededFor_a7421_3 : decode cJ5_inflateIfNeededFor_a7421 3 = .ok (.ifCond .eq 18, 3) := by decide +kernel
theorem dJ5_inflateIfNeededFor_a7421_6 : decode cJ5_inflateIfNeededFor_a7421 6 = .ok (.aload_n 0, 1) := by decide +kernel
theorem dJ5_inflateIfNeededFor_a7421_7 : decode cJ5_inflateIfNeededFor_a7421 7 = .ok (.getfield 22, 3) := by decide +kernel
theorem dJ5_inflateIfNeededFor_a7421_10 : decode cJ5_inflateIfNeededFor_a7421 10 = .ok (.aload_n 1, 1) := by decide +kernel
theorem dJ5_inflateIfNeededFor_a7421_11 : decode cJ5_inflateIfNeededFor_a7421 11 = .ok (.invokevirtual 40, 3) := by decide +kernel
theorem dJ5_inflateIfNeededFor_a7421_14 : decode cJ5_inflateIfNeededFor_a7421 14 = .ok (.if_icmp .eq 7, 3) := by decide +kernel
theorem dJ5_inflateIfNeededFor_a7421_17 : decode cJ5_inflateIfNeededFor_a7421 17 = .ok (.aload_n 0, 1) := by decide +kernel
theorem dJ5_inflateIfNeededFor_a7421_18 : decode cJ5_inflateIfNeededFor_a7421 18 = .ok (.invokevirtual 195, 3) := by decide +kernel
theorem dJ5_inflateIfNeededFor_a7421_21 : decode cJ5_inflateIfNeededFor_a7421 21 = .ok (.return_, 1) := by decide +kernel
theorem dJ5_putStringAt_47b60_0 : decode cJ5_putStringAt_47b60 0 = .ok (.aload_n 0, 1) := by decide +kernel
theorem dJ5_putStringAt_47b60_1 : decode cJ5_putStringAt_47b60 1 = .ok (.aload_n 2, 1) := by decide +kernel
theorem dJ5_putStringAt_47b60_2 : decode cJ5_putStringAt_47b60 2 = .ok (.invokevirtual 397, 3) := by decide +kernel
theorem dJ5_putStringAt_47b60_5 : decode cJ5_putStringAt_47b60 5 = .ok (.aload_n 2, 1) := by decide +kernel
theorem dJ5_putStringAt_47b60_6 : decode cJ5_putStringAt_47b60 6 = .ok (.aload_n 0, 1) := by decide +kernel
theorem dJ5_putStringAt_47b60_7 : decode cJ5_putStringAt_47b60 7 = .ok (.getfield 15, 3) := by decide +kernel
theorem dJ5_putStringAt_47b60_10 : decode cJ5_putStringAt_47b60 10 = .ok (.iload_n 1, 1) := by decide +kernel
theorem dJ5_putStringAt_47b60_11 : decode cJ5_putStringAt_47b60 11 = .ok (.aload_n 0, 1) := by decide +kernel
theorem dJ5_putStringAt_47b60_12 : decode cJ5_putStringAt_47b60 12 = .ok (.getfield 22, 3) := by decide +kernel
theorem dJ5_putStringAt_47b60_15 : decode cJ5_putStringAt_47b60 15 = .ok (.invokevirtual 399, 3) := by decide +kernel
theorem dJ5_putStringAt_47b60_18 : decode cJ5_putStringAt_47b60 18 = .ok (.return_, 1) := by decide +kernel
theorem dJ6_getChars_ba4f3_0 : decode cJ6_getChars_ba4f3 0 = .ok (.iload_n 1, 1) := by decide +kernel
theorem dJ6_getChars_ba4f3_1 : decode cJ6_getChars_ba4f3 1 = .ok (.istore 5, 2) := by decide +kernel
theorem dJ6_getChars_ba4f3_3 : decode cJ6_getChars_ba4f3 3 = .ok (.iload_n 0, 1) := by decide +kernel
theorem dJ6_getChars_ba4f3_4 : decode cJ6_getChars_ba4f3 4 = .ok (.ifCond .ge 7, 3) := by decide +kernel
theorem dJ6_getChars_ba4f3_7 : decode cJ6_getChars_ba4f3 7 = .ok (.iconst 1, 1) := by decide +kernel
theorem dJ6_getChars_ba4f3_8 : decode cJ6_getChars_ba4f3 8 = .ok (.goto 4, 3) := by decide +kernel
theorem dJ6_getChars_ba4f3_11 : decode cJ6_getChars_ba4f3 11 = .ok (.iconst 0, 1) := by decide +kernel
theorem dJ6_getChars_ba4f3_12 : decode cJ6_getChars_ba4f3 12 = .ok (.istore 6, 2) := by decide +kernel
theorem dJ6_getChars_ba4f3_14 : decode cJ6_getChars_ba4f3 14 = .ok (.iload 6, 2) := by decide +kernel
theorem dJ6_getChars_ba4f3_16 : decode cJ6_getChars_ba4f3 16 = .ok (.ifCond .ne 6, 3) := by decide +kernel
theorem dJ6_getChars_ba4f3_19 : decode cJ6_getChars_ba4f3 19 = .ok (.iload_n 0, 1) := by decide +kernel
theorem dJ6_getChars_ba4f3_20 : decode cJ6_getChars_ba4f3 20 = .ok (.ineg, 1) := by decide +kernel
theorem dJ6_getChars_ba4f3_21 : decode cJ6_getChars_ba4f3 21 = .ok (.istore_n 0, 1) := by decide +kernel
theorem dJ6_getChars_ba4f3_22 : decode cJ6_getChars_ba4f3 22 = .ok (.iload_n 0, 1) := by decide +kernel
theorem dJ6_getChars_ba4f3_23 : decode cJ6_getChars_ba4f3 23 = .ok (.bipush (-100), 2) := by decide +kernel
theorem dJ6_getChars_ba4f3_25 : decode cJ6_getChars_ba4f3 25 = .ok (.if_icmp .gt 47, 3) := by decide +kernel
theorem dJ6_getChars_ba4f3_28 : decode cJ6_getChars_ba4f3 28 = .ok (.iload_n 0, 1) := by decide +kernel
theorem dJ6_getChars_ba4f3_29 : decode cJ6_getChars_ba4f3 29 = .ok (.bipush 100, 2) := by decide +kernel
theorem dJ6_getChars_ba4f3_31 : decode cJ6_getChars_ba4f3 31 = .ok (.idiv, 1) := by decide +kernel
theorem dJ6_getChars_ba4f3_32 : decode cJ6_getChars_ba4f3 32 = .ok (.istore_n 3, 1) := by decide +kernel
theorem dJ6_getChars_ba4f3_33 : decode cJ6_getChars_ba4f3 33 = .ok (.iload_n 3, 1) := by decide +kernel
theorem dJ6_getChars_ba4f3_34 : decode cJ6_getChars_ba4f3 34 = .ok (.bipush 100, 2) := by decide +kernel
theorem dJ6_getChars_ba4f3_36 : decode cJ6_getChars_ba4f3 36 = .ok (.imul, 1) := by decide +kernel
theorem dJ6_getChars_ba4f3_37 : decode cJ6_getChars_ba4f3 37 = .ok (.iload_n 0, 1) := by decide +kernel
theorem dJ6_getChars_ba4f3_38 : decode cJ6_getChars_ba4f3 38 = .ok (.isub, 1) := by decide +kernel
theorem dJ6_getChars_ba4f3_39 : decode cJ6_getChars_ba4f3 39 = .ok (.istore 4, 2) := by decide +kernel
theorem dJ6_getChars_ba4f3_41 : decode cJ6_getChars_ba4f3 41 = .ok (.iload_n 3, 1) := by decide +kernel
theorem dJ6_getChars_ba4f3_42 : decode cJ6_getChars_ba4f3 42 = .ok (.istore_n 0, 1) := by decide +kernel
theorem dJ6_getChars_ba4f3_43 : decode cJ6_getChars_ba4f3 43 = .ok (.aload_n 2, 1) := by decide +kernel
theorem dJ6_getChars_ba4f3_44 : decode cJ6_getChars_ba4f3 44 = .ok (.iinc 5 (-1), 3) := by decide +kernel
theorem dJ6_getChars_ba4f3_47 : decode cJ6_getChars_ba4f3 47 = .ok (.iload 5, 2) := by decide +kernel
theorem dJ6_getChars_ba4f3_49 : decode cJ6_getChars_ba4f3 49 = .ok (.getstatic 83, 3) := by decide +kernel
theorem dJ6_getChars_ba4f3_52 : decode cJ6_getChars_ba4f3 52 = .ok (.iload 4, 2) := by decide +kernel
theorem dJ6_getChars_ba4f3_54 : decode cJ6_getChars_ba4f3 54 = .ok (.baload, 1) := by decide +kernel
theorem dJ6_getChars_ba4f3_55 : decode cJ6_getChars_ba4f3 55 = .ok (.bastore, 1) := by decide +kernel
theorem dJ6_getChars_ba4f3_56 : decode cJ6_getChars_ba4f3 56 = .ok (.aload_n 2, 1) := by decide +kernel
theorem dJ6_getChars_ba4f3_57 : decode cJ6_getChars_ba4f3 57 = .ok (.iinc 5 (-1), 3) := by decide +kernel
theorem dJ6_getChars_ba4f3_60 : decode cJ6_getChars_ba4f3 60 = .ok (.iload 5, 2) := by decide +kernel
theorem dJ6_getChars_ba4f3_62 : decode cJ6_getChars_ba4f3 62 = .ok (.getstatic 87, 3) := by decide +kernel
theorem dJ6_getChars_ba4f3_65 : decode cJ6_getChars_ba4f3 65 = .ok (.iload 4, 2) := by decide +kernel
theorem dJ6_getChars_ba4f3_67 : decode cJ6_getChars_ba4f3 67 = .ok (.baload, 1) := by decide +kernel
theorem dJ6_getChars_ba4f3_68 : decode cJ6_getChars_ba4f3 68 = .ok (.bastore, 1) := by decide +kernel
theorem dJ6_getChars_ba4f3_69 : decode cJ6_getChars_ba4f3 69 = .ok (.goto (-47), 3) := by decide +kernel
theorem dJ6_getChars_ba4f3_72 : decode cJ6_getChars_ba4f3 72 = .ok (.aload_n 2, 1) := by decide +kernel
theorem dJ6_getChars_ba4f3_73 : decode cJ6_getChars_ba4f3 73 = .ok (.iinc 5 (-1), 3) := by decide +kernel
theorem dJ6_getChars_ba4f3_76 : decode cJ6_getChars_ba4f3 76 = .ok (.iload 5, 2) := by decide +kernel
theorem dJ6_getChars_ba4f3_78 : decode cJ6_getChars_ba4f3 78 = .ok (.getstatic 83, 3) := by decide +kernel
theorem dJ6_getChars_ba4f3_81 : decode cJ6_getChars_ba4f3 81 = .ok (.iload_n 0, 1) := by decide +kernel
theorem dJ6_getChars_ba4f3_82 : decode cJ6_getChars_ba4f3 82 = .ok (.ineg, 1) := by decide +kernel
theorem dJ6_getChars_ba4f3_83 : decode cJ6_getChars_ba4f3 83 = .ok (.baload, 1) := by decide +kernel
theorem dJ6_getChars_ba4f3_84 : decode cJ6_getChars_ba4f3 84 = .ok (.bastore, 1) := by decide +kernel
theorem dJ6_getChars_ba4f3_85 : decode cJ6_getChars_ba4f3 85 = .ok (.iload_n 0, 1) := by decide +kernel
theorem dJ6_getChars_ba4f3_86 : decode cJ6_getChars_ba4f3 86 = .ok (.bipush (-9), 2) := by decide +kernel
theorem dJ6_getChars_ba4f3_88 : decode cJ6_getChars_ba4f3 88 = .ok (.if_icmp .ge 16, 3) := by decide +kernel
theorem dJ6_getChars_ba4f3_91 : decode cJ6_getChars_ba4f3 91 = .ok (.aload_n 2, 1) := by decide +kernel
theorem dJ6_getChars_ba4f3_92 : decode cJ6_getChars_ba4f3 92 = .ok (.iinc 5 (-1), 3) := by decide +kernel
theorem dJ6_getChars_ba4f3_95 : decode cJ6_getChars_ba4f3 95 = .ok (.iload 5, 2) := by decide +kernel
theorem dJ6_getChars_ba4f3_97 : decode cJ6_getChars_ba4f3 97 = .ok (.getstatic 87, 3) := by decide +kernel
theorem dJ6_getChars_ba4f3_100 : decode cJ6_getChars_ba4f3 100 = .ok (.iload_n 0, 1) := by decide +kernel
theorem dJ6_getChars_ba4f3_101 : decode cJ6_getChars_ba4f3 101 = .ok (.ineg, 1) := by decide +kernel
theorem dJ6_getChars_ba4f3_102 : decode cJ6_getChars_ba4f3 102 = .ok (.baload, 1) := by decide +kernel
theorem dJ6_getChars_ba4f3_103 : decode cJ6_getChars_ba4f3 103 = .ok (.bastore, 1) := by decide +kernel
theorem dJ6_getChars_ba4f3_104 : decode cJ6_getChars_ba4f3 104 = .ok (.iload 6, 2) := by decide +kernel
theorem dJ6_getChars_ba4f3_106 : decode cJ6_getChars_ba4f3 106 = .ok (.ifCond .eq 12, 3) := by decide +kernel
theorem dJ6_getChars_ba4f3_109 : decode cJ6_getChars_ba4f3 109 = .ok (.aload_n 2, 1) := by decide +kernel
theorem dJ6_getChars_ba4f3_110 : decode cJ6_getChars_ba4f3 110 = .ok (.iinc 5 (-1), 3) := by decide +kernel
theorem dJ6_getChars_ba4f3_113 : decode cJ6_getChars_ba4f3 113 = .ok (.iload 5, 2) := by decide +kernel
theorem dJ6_getChars_ba4f3_115 : decode cJ6_getChars_ba4f3 115 = .ok (.bipush 45, 2) := by decide +kernel
theorem dJ6_getChars_ba4f3_117 : decode cJ6_getChars_ba4f3 117 = .ok (.bastore, 1) := by decide +kernel
theorem dJ6_getChars_ba4f3_118 : decode cJ6_getChars_ba4f3 118 = .ok (.iload 5, 2) := by decide +kernel
theorem dJ6_getChars_ba4f3_120 : decode cJ6_getChars_ba4f3 120 = .ok (.ireturn, 1) := by decide +kernel
theorem dJ6_stringSize_0f7a4_0 : decode cJ6_stringSize_0f7a4 0 = .ok (.iconst 1, 1) := by decide +kernel
theorem dJ6_stringSize_0f7a4_1 : decode cJ6_stringSize_0f7a4 1 = .ok (.istore_n 1, 1) := by decide +kernel
theorem dJ6_stringSize_0f7a4_2 : decode cJ6_stringSize_0f7a4 2 = .ok (.iload_n 0, 1) := by decide +kernel
theorem dJ6_stringSize_0f7a4_3 : decode cJ6_stringSize_0f7a4 3 = .ok (.ifCond .lt 8, 3) := by decide +kernel
theorem dJ6_stringSize_0f7a4_6 : decode cJ6_stringSize_0f7a4 6 = .ok (.iconst 0, 1) := by decide +kernel
theorem dJ6_stringSize_0f7a4_7 : decode cJ6_stringSize_0f7a4 7 = .ok (.istore_n 1, 1) := by decide +kernel
theorem dJ6_stringSize_0f7a4_8 : decode cJ6_stringSize_0f7a4 8 = .ok (.iload_n 0, 1) := by decide +kernel
theorem dJ6_stringSize_0f7a4_9 : decode cJ6_stringSize_0f7a4 9 = .ok (.ineg, 1) := by decide +kernel
theorem dJ6_stringSize_0f7a4_10 : decode cJ6_stringSize_0f7a4 10 = .ok (.istore_n 0, 1) := by decide +kernel
theorem dJ6_stringSize_0f7a4_11 : decode cJ6_stringSize_0f7a4 11 = .ok (.bipush (-10), 2) := by decide +kernel
theorem dJ6_stringSize_0f7a4_13 : decode cJ6_stringSize_0f7a4 13 = .ok (.istore_n 2, 1) := by decide +kernel
theorem dJ6_stringSize_0f7a4_14 : decode cJ6_stringSize_0f7a4 14 = .ok (.iconst 1, 1) := by decide +kernel
theorem dJ6_stringSize_0f7a4_15 : decode cJ6_stringSize_0f7a4 15 = .ok (.istore_n 3, 1) := by decide +kernel
theorem dJ6_stringSize_0f7a4_16 : decode cJ6_stringSize_0f7a4 16 = .ok (.iload_n 3, 1) := by decide +kernel
theorem dJ6_stringSize_0f7a4_17 : decode cJ6_stringSize_0f7a4 17 = .ok (.bipush 10, 2) := by decide +kernel
theorem dJ6_stringSize_0f7a4_19 : decode cJ6_stringSize_0f7a4 19 = .ok (.if_icmp .ge 23, 3) := by decide +kernel
theorem dJ6_stringSize_0f7a4_22 : decode cJ6_stringSize_0f7a4 22 = .ok (.iload_n 0, 1) := by decide +kernel
theorem dJ6_stringSize_0f7a4_23 : decode cJ6_stringSize_0f7a4 23 = .ok (.iload_n 2, 1) := by decide +kernel
theorem dJ6_stringSize_0f7a4_24 : decode cJ6_stringSize_0f7a4 24 = .ok (.if_icmp .le 7, 3) := by decide +kernel
theorem dJ6_stringSize_0f7a4_27 : decode cJ6_stringSize_0f7a4 27 = .ok (.iload_n 3, 1) := by decide +kernel
theorem dJ6_stringSize_0f7a4_28 : decode cJ6_stringSize_0f7a4 28 = .ok (.iload_n 1, 1) := by decide +kernel
theorem dJ6_stringSize_0f7a4_29 : decode cJ6_stringSize_0f7a4 29 = .ok (.iadd, 1) := by decide +kernel
theorem dJ6_stringSize_0f7a4_30 : decode cJ6_stringSize_0f7a4 30 = .ok (.ireturn, 1) := by decide +kernel
theorem dJ6_stringSize_0f7a4_31 : decode cJ6_stringSize_0f7a4 31 = .ok (.bipush 10, 2) := by decide +kernel
theorem dJ6_stringSize_0f7a4_33 : decode cJ6_stringSize_0f7a4 33 = .ok (.iload_n 2, 1) := by decide +kernel
theorem dJ6_stringSize_0f7a4_34 : decode cJ6_stringSize_0f7a4 34 = .ok (.imul, 1) := by decide +kernel
theorem dJ6_stringSize_0f7a4_35 : decode cJ6_stringSize_0f7a4 35 = .ok (.istore_n 2, 1) := by decide +kernel
theorem dJ6_stringSize_0f7a4_36 : decode cJ6_stringSize_0f7a4 36 = .ok (.iinc 3 1, 3) := by decide +kernel
theorem dJ6_stringSize_0f7a4_39 : decode cJ6_stringSize_0f7a4 39 = .ok (.goto (-23), 3) := by decide +kernel
theorem dJ6_stringSize_0f7a4_42 : decode cJ6_stringSize_0f7a4 42 = .ok (.bipush 10, 2) := by decide +kernel
theorem dJ6_stringSize_0f7a4_44 : decode cJ6_stringSize_0f7a4 44 = .ok (.iload_n 1, 1) := by decide +kernel
theorem dJ6_stringSize_0f7a4_45 : decode cJ6_stringSize_0f7a4 45 = .ok (.iadd, 1) := by decide +kernel
theorem dJ6_stringSize_0f7a4_46 : decode cJ6_stringSize_0f7a4 46 = .ok (.ireturn, 1) := by decide +kernel
theorem dJ13_compare_74951_0 : decode cJ13_compare_74951 0 = .ok (.lload_n 0, 1) := by decide +kernel
theorem dJ13_compare_74951_1 : decode cJ13_compare_74951 1 = .ok (.lload_n 2, 1) := by decide +kernel
theorem dJ13_compare_74951_2 : decode cJ13_compare_74951 2 = .ok (.lcmp, 1) := by decide +kernel
theorem dJ13_compare_74951_3 : decode cJ13_compare_74951 3 = .ok (.ifCond .ge 7, 3) := by decide +kernel
theorem dJ13_compare_74951_6 : decode cJ13_compare_74951 6 = .ok (.iconst (-1), 1) := by decide +kernel
theorem dJ13_compare_74951_7 : decode cJ13_compare_74951 7 = .ok (.goto 14, 3) := by decide +kernel
theorem dJ13_compare_74951_10 : decode cJ13_compare_74951 10 = .ok (.lload_n 0, 1) := by decide +kernel
theorem dJ13_compare_74951_11 : decode cJ13_compare_74951 11 = .ok (.lload_n 2, 1) := by decide +kernel
theorem dJ13_compare_74951_12 : decode cJ13_compare_74951 12 = .ok (.lcmp, 1) := by decide +kernel
theorem dJ13_compare_74951_13 : decode cJ13_compare_74951 13 = .ok (.ifCond .ne 7, 3) := by decide +kernel
theorem dJ13_compare_74951_16 : decode cJ13_compare_74951 16 = .ok (.iconst 0, 1) := by decide +kernel
theorem dJ13_compare_74951_17 : decode cJ13_compare_74951 17 = .ok (.goto 4, 3) := by decide +kernel
theorem dJ13_compare_74951_20 : decode cJ13_compare_74951 20 = .ok (.iconst 1, 1) := by decide +kernel
theorem dJ13_compare_74951_21 : decode cJ13_compare_74951 21 = .ok (.ireturn, 1) := by decide +kernel
theorem dJ9_abs_0f7a4_0 : decode cJ9_abs_0f7a4 0 = .ok (.iload_n 0, 1) := by decide +kernel
theorem dJ9_abs_0f7a4_1 : decode cJ9_abs_0f7a4 1 = .ok (.ifCond .ge 8, 3) := by decide +kernel
theorem dJ9_abs_0f7a4_4 : decode cJ9_abs_0f7a4 4 = .ok (.iload_n 0, 1) := by decide +kernel
theorem dJ9_abs_0f7a4_5 : decode cJ9_abs_0f7a4 5 = .ok (.ineg, 1) := by decide +kernel
theorem dJ9_abs_0f7a4_6 : decode cJ9_abs_0f7a4 6 = .ok (.goto 4, 3) := by decide +kernel
theorem dJ9_abs_0f7a4_9 : decode cJ9_abs_0f7a4 9 = .ok (.iload_n 0, 1) := by decide +kernel
theorem dJ9_abs_0f7a4_10 : decode cJ9_abs_0f7a4 10 = .ok (.ireturn, 1) := by decide +kernel
theorem dJ9_abs_067f4_0 : decode cJ9_abs_067f4 0 = .ok (.lload_n 0, 1) := by decide +kernel
theorem dJ9_abs_067f4_1 : decode cJ9_abs_067f4 1 = .ok (.lconst 0, 1) := by decide +kernel
theorem dJ9_abs_067f4_2 : decode cJ9_abs_067f4 2 = .ok (.lcmp, 1) := by decide +kernel
theorem dJ9_abs_067f4_3 : decode cJ9_abs_067f4 3 = .ok (.ifCond .ge 8, 3) := by decide +kernel
theorem dJ9_abs_067f4_6 : decode cJ9_abs_067f4 6 = .ok (.lload_n 0, 1) := by decide +kernel
theorem dJ9_abs_067f4_7 : decode cJ9_abs_067f4 7 = .ok (.lneg, 1) := by decide +kernel
theorem dJ9_abs_067f4_8 : decode cJ9_abs_067f4 8 = .ok (.goto 4, 3) := by decide +kernel
theorem dJ9_abs_067f4_11 : decode cJ9_abs_067f4 11 = .ok (.lload_n 0, 1) := by decide +kernel
theorem dJ9_abs_067f4_12 : decode cJ9_abs_067f4 12 = .ok (.lreturn, 1) := by decide +kernel
theorem dJ9_max_7cf53_0 : decode cJ9_max_7cf53 0 = .ok (.iload_n 0, 1) := by decide +kernel
theorem dJ9_max_7cf53_1 : decode cJ9_max_7cf53 1 = .ok (.iload_n 1, 1) := by decide +kernel
theorem dJ9_max_7cf53_2 : decode cJ9_max_7cf53 2 = .ok (.if_icmp .lt 7, 3) := by decide +kernel
theorem dJ9_max_7cf53_5 : decode cJ9_max_7cf53 5 = .ok (.iload_n 0, 1) := by decide +kernel
theorem dJ9_max_7cf53_6 : decode cJ9_max_7cf53 6 = .ok (.goto 4, 3) := by decide +kernel
theorem dJ9_max_7cf53_9 : decode cJ9_max_7cf53 9 = .ok (.iload_n 1, 1) := by decide +kernel
theorem dJ9_max_7cf53_10 : decode cJ9_max_7cf53 10 = .ok (.ireturn, 1) := by decide +kernel
theorem dJ9_min_7cf53_0 : decode cJ9_min_7cf53 0 = .ok (.iload_n 0, 1) := by decide +kernel
theorem dJ9_min_7cf53_1 : decode cJ9_min_7cf53 1 = .ok (.iload_n 1, 1) := by decide +kernel
theorem dJ9_min_7cf53_2 : decode cJ9_min_7cf53 2 = .ok (.if_icmp .gt 7, 3) := by decide +kernel
theorem dJ9_min_7cf53_5 : decode cJ9_min_7cf53 5 = .ok (.iload_n 0, 1) := by decide +kernel
theorem dJ9_min_7cf53_6 : decode cJ9_min_7cf53 6 = .ok (.goto 4, 3) := by decide +kernel
theorem dJ9_min_7cf53_9 : decode cJ9_min_7cf53 9 = .ok (.iload_n 1, 1) := by decide +kernel
theorem dJ9_min_7cf53_10 : decode cJ9_min_7cf53 10 = .ok (.ireturn, 1) := by decide +kernel
theorem dJ0_init_81219_0 : decode cJ0_init_81219 0 = .ok (.aload_n 0, 1) := by decide +kernel
theorem dJ0_init_81219_1 : decode cJ0_init_81219 1 = .ok (.aload_n 1, 1) := by decide +kernel
theorem dJ0_init_81219_2 : decode cJ0_init_81219 2 = .ok (.aconst_null, 1) := by decide +kernel
theorem dJ0_init_81219_3 : decode cJ0_init_81219 3 = .ok (.invokespecial 489, 3) := by decide +kernel
theorem dJ0_init_81219_6 : decode cJ0_init_81219 6 = .ok (.return_, 1) := by decide +kernel
theorem dJ0_length_8abf5_0 : decode cJ0_length_8abf5 0 = .ok (.aload_n 0, 1) := by decide +kernel
theorem dJ0_length_8abf5_1 : decode cJ0_length_8abf5 1 = .ok (.getfield 9, 3) := by decide +kernel
theorem dJ0_length_8abf5_4 : decode cJ0_length_8abf5 4 = .ok (.arraylength, 1) := by decide +kernel
theorem dJ0_length_8abf5_5 : decode cJ0_length_8abf5 5 = .ok (.aload_n 0, 1) := by decide +kernel
theorem dJ0_length_8abf5_6 : decode cJ0_length_8abf5 6 = .ok (.invokevirtual 335, 3) := by decide +kernel
theorem dJ0_length_8abf5_9 : decode cJ0_length_8abf5 9 = .ok (.ishr, 1) := by decide +kernel
theorem dJ0_length_8abf5_10 : decode cJ0_length_8abf5 10 = .ok (.ireturn, 1) := by decide +kernel
theorem dJ0_charAt_5068e_0 : decode cJ0_charAt_5068e 0 = .ok (.aload_n 0, 1) := by decide +kernel
theorem dJ0_charAt_5068e_1 : decode cJ0_charAt_5068e 1 = .ok (.invokevirtual 492, 3) := by decide +kernel
theorem dJ0_charAt_5068e_4 : decode cJ0_charAt_5068e 4 = .ok (.ifCond .eq 12, 3) := by decide +kernel
theorem dJ0_charAt_5068e_7 : decode cJ0_charAt_5068e 7 = .ok (.aload_n 0, 1) := by decide +kernel
theorem dJ0_charAt_5068e_8 : decode cJ0_charAt_5068e 8 = .ok (.getfield 9, 3) := by decide +kernel
theorem dJ0_charAt_5068e_11 : decode cJ0_charAt_5068e 11 = .ok (.iload_n 1, 1) := by decide +kernel
theorem dJ0_charAt_5068e_12 : decode cJ0_charAt_5068e 12 = .ok (.invokestatic 495, 3) := by decide +kernel
theorem dJ0_charAt_5068e_15 : decode cJ0_charAt_5068e 15 = .ok (.ireturn, 1) := by decide +kernel
theorem dJ0_charAt_5068e_16 : decode cJ0_charAt_5068e 16 = .ok (.aload_n 0, 1) := by decide +kernel
theorem dJ0_charAt_5068e_17 : decode cJ0_charAt_5068e 17 = .ok (.getfield 9, 3) := by decide +kernel
theorem dJ0_charAt_5068e_20 : decode cJ0_charAt_5068e 20 = .ok (.iload_n 1, 1) := by decide +kernel
theorem dJ0_charAt_5068e_21 : decode cJ0_charAt_5068e 21 = .ok (.invokestatic 498, 3) := by decide +kernel
theorem dJ0_charAt_5068e_24 : decode cJ0_charAt_5068e 24 = .ok (.ireturn, 1) := by decide +kernel
theorem dJ0_getBytes_840e7_0 : decode cJ0_getBytes_840e7 0 = .ok (.aload_n 0, 1) := by decide +kernel
theorem dJ0_getBytes_840e7_1 : decode cJ0_getBytes_840e7 1 = .ok (.invokevirtual 335, 3) := by decide +kernel
theorem dJ0_getBytes_840e7_4 : decode cJ0_getBytes_840e7 4 = .ok (.iload_n 3, 1) := by decide +kernel
theorem dJ0_getBytes_840e7_5 : decode cJ0_getBytes_840e7 5 = .ok (.if_icmp .ne 23, 3) := by decide +kernel
theorem dJ0_getBytes_840e7_8 : decode cJ0_getBytes_840e7 8 = .ok (.aload_n 0, 1) := by decide +kernel
theorem dJ0_getBytes_840e7_9 : decode cJ0_getBytes_840e7 9 = .ok (.getfield 9, 3) := by decide +kernel
theorem dJ0_getBytes_840e7_12 : decode cJ0_getBytes_840e7 12 = .ok (.iconst 0, 1) := by decide +kernel
theorem dJ0_getBytes_840e7_13 : decode cJ0_getBytes_840e7 13 = .ok (.aload_n 1, 1) := by decide +kernel
theorem dJ0_getBytes_840e7_14 : decode cJ0_getBytes_840e7 14 = .ok (.iload_n 2, 1) := by decide +kernel
theorem dJ0_getBytes_840e7_15 : decode cJ0_getBytes_840e7 15 = .ok (.iload_n 3, 1) := by decide +kernel
theorem dJ0_getBytes_840e7_16 : decode cJ0_getBytes_840e7 16 = .ok (.ishl, 1) := by decide +kernel
theorem dJ0_getBytes_840e7_17 : decode cJ0_getBytes_840e7 17 = .ok (.aload_n 0, 1) := by decide +kernel
theorem dJ0_getBytes_840e7_18 : decode cJ0_getBytes_840e7 18 = .ok (.getfield 9, 3) := by decide +kernel
theorem dJ0_getBytes_840e7_21 : decode cJ0_getBytes_840e7 21 = .ok (.arraylength, 1) := by decide +kernel
theorem dJ0_getBytes_840e7_22 : decode cJ0_getBytes_840e7 22 = .ok (.invokestatic 212, 3) := by decide +kernel
theorem dJ0_getBytes_840e7_25 : decode cJ0_getBytes_840e7 25 = .ok (.goto 18, 3) := by decide +kernel
theorem dJ0_getBytes_840e7_28 : decode cJ0_getBytes_840e7 28 = .ok (.aload_n 0, 1) := by decide +kernel
theorem dJ0_getBytes_840e7_29 : decode cJ0_getBytes_840e7 29 = .ok (.getfield 9, 3) := by decide +kernel
theorem dJ0_getBytes_840e7_32 : decode cJ0_getBytes_840e7 32 = .ok (.iconst 0, 1) := by decide +kernel
theorem dJ0_getBytes_840e7_33 : decode cJ0_getBytes_840e7 33 = .ok (.aload_n 1, 1) := by decide +kernel
theorem dJ0_getBytes_840e7_34 : decode cJ0_getBytes_840e7 34 = .ok (.iload_n 2, 1) := by decide +kernel
theorem dJ0_getBytes_840e7_35 : decode cJ0_getBytes_840e7 35 = .ok (.aload_n 0, 1) := by decide +kernel
theorem dJ0_getBytes_840e7_36 : decode cJ0_getBytes_840e7 36 = .ok (.getfield 9, 3) := by decide +kernel
theorem dJ0_getBytes_840e7_39 : decode cJ0_getBytes_840e7 39 = .ok (.arraylength, 1) := by decide +kernel
theorem dJ0_getBytes_840e7_40 : decode cJ0_getBytes_840e7 40 = .ok (.invokestatic 106, 3) := by decide +kernel
theorem dJ0_getBytes_840e7_43 : decode cJ0_getBytes_840e7 43 = .ok (.return_, 1) := by decide +kernel
theorem dJ0_init_db425_0 : decode cJ0_init_db425 0 = .ok (.aload_n 0, 1) := by decide +kernel
theorem dJ0_init_db425_1 : decode cJ0_init_db425 1 = .ok (.invokespecial 1, 3) := by decide +kernel
theorem dJ0_init_db425_4 : decode cJ0_init_db425 4 = .ok (.aload_n 1, 1) := by decide +kernel
theorem dJ0_init_db425_5 : decode cJ0_init_db425 5 = .ok (.invokevirtual 552, 3) := by decide +kernel
theorem dJ0_init_db425_8 : decode cJ0_init_db425 8 = .ok (.astore_n 3, 1) := by decide +kernel
theorem dJ0_init_db425_9 : decode cJ0_init_db425 9 = .ok (.aload_n 1, 1) := by decide +kernel
theorem dJ0_init_db425_10 : decode cJ0_init_db425 10 = .ok (.invokevirtual 549, 3) := by decide +kernel
theorem dJ0_init_db425_13 : decode cJ0_init_db425 13 = .ok (.istore 4, 2) := by decide +kernel
theorem dJ0_init_db425_15 : decode cJ0_init_db425 15 = .ok (.aload_n 1, 1) := by decide +kernel
theorem dJ0_init_db425_16 : decode cJ0_init_db425 16 = .ok (.invokevirtual 1047, 3) := by decide +kernel
theorem dJ0_init_db425_19 : decode cJ0_init_db425 19 = .ok (.ifCond .eq 22, 3) := by decide +kernel
theorem dJ0_init_db425_22 : decode cJ0_init_db425 22 = .ok (.aload_n 0, 1) := by decide +kernel
theorem dJ0_init_db425_23 : decode cJ0_init_db425 23 = .ok (.iconst 0, 1) := by decide +kernel
theorem dJ0_init_db425_24 : decode cJ0_init_db425 24 = .ok (.putfield 15, 3) := by decide +kernel
theorem dJ0_init_db425_27 : decode cJ0_init_db425 27 = .ok (.aload_n 0, 1) := by decide +kernel
theorem dJ0_init_db425_28 : decode cJ0_init_db425 28 = .ok (.aload_n 3, 1) := by decide +kernel
theorem dJ0_init_db425_29 : decode cJ0_init_db425 29 = .ok (.iconst 0, 1) := by decide +kernel
theorem dJ0_init_db425_30 : decode cJ0_init_db425 30 = .ok (.iload 4, 2) := by decide +kernel
theorem dJ0_init_db425_32 : decode cJ0_init_db425 32 = .ok (.invokestatic 54, 3) := by decide +kernel
theorem dJ0_init_db425_35 : decode cJ0_init_db425 35 = .ok (.putfield 9, 3) := by decide +kernel
theorem dJ0_init_db425_38 : decode cJ0_init_db425 38 = .ok (.goto 59, 3) := by decide +kernel
theorem dJ0_init_db425_41 : decode cJ0_init_db425 41 = .ok (.getstatic 38, 3) := by decide +kernel
theorem dJ0_init_db425_44 : decode cJ0_init_db425 44 = .ok (.ifCond .eq 35, 3) := by decide +kernel
theorem dJ0_init_db425_47 : decode cJ0_init_db425 47 = .ok (.aload_n 1, 1) := by decide +kernel
theorem dJ0_init_db425_48 : decode cJ0_init_db425 48 = .ok (.getfield 1048, 3) := by decide +kernel
theorem dJ0_init_db425_51 : decode cJ0_init_db425 51 = .ok (.ifCond .eq 28, 3) := by decide +kernel
theorem dJ0_init_db425_54 : decode cJ0_init_db425 54 = .ok (.aload_n 0, 1) := by decide +kernel
theorem dJ0_init_db425_55 : decode cJ0_init_db425 55 = .ok (.aload_n 3, 1) := by decide +kernel
theorem dJ0_init_db425_56 : decode cJ0_init_db425 56 = .ok (.iconst 0, 1) := by decide +kernel
theorem dJ0_init_db425_57 : decode cJ0_init_db425 57 = .ok (.iload 4, 2) := by decide +kernel
theorem dJ0_init_db425_59 : decode cJ0_init_db425 59 = .ok (.invokestatic 1051, 3) := by decide +kernel
theorem dJ0_init_db425_62 : decode cJ0_init_db425 62 = .ok (.putfield 9, 3) := by decide +kernel
theorem dJ0_init_db425_65 : decode cJ0_init_db425 65 = .ok (.aload_n 0, 1) := by decide +kernel
theorem dJ0_init_db425_66 : decode cJ0_init_db425 66 = .ok (.aload_n 0, 1) := by decide +kernel
theorem dJ0_init_db425_67 : decode cJ0_init_db425 67 = .ok (.getfield 9, 3) := by decide +kernel
theorem dJ0_init_db425_70 : decode cJ0_init_db425 70 = .ok (.iload 4, 2) := by decide +kernel
theorem dJ0_init_db425_72 : decode cJ0_init_db425 72 = .ok (.invokestatic 47, 3) := by decide +kernel
theorem dJ0_init_db425_75 : decode cJ0_init_db425 75 = .ok (.putfield 15, 3) := by decide +kernel
theorem dJ0_init_db425_78 : decode cJ0_init_db425 78 = .ok (.return_, 1) := by decide +kernel
theorem dJ0_init_db425_79 : decode cJ0_init_db425 79 = .ok (.aload_n 0, 1) := by decide +kernel
theorem dJ0_init_db425_80 : decode cJ0_init_db425 80 = .ok (.iconst 1, 1) := by decide +kernel
theorem dJ0_init_db425_81 : decode cJ0_init_db425 81 = .ok (.putfield 15, 3) := by decide +kernel
theorem dJ0_init_db425_84 : decode cJ0_init_db425 84 = .ok (.aload_n 0, 1) := by decide +kernel
theorem dJ0_init_db425_85 : decode cJ0_init_db425 85 = .ok (.aload_n 3, 1) := by decide +kernel
theorem dJ0_init_db425_86 : decode cJ0_init_db425 86 = .ok (.iconst 0, 1) := by decide +kernel
theorem dJ0_init_db425_87 : decode cJ0_init_db425 87 = .ok (.iload 4, 2) := by decide +kernel
theorem dJ0_init_db425_89 : decode cJ0_init_db425 89 = .ok (.iconst 1, 1) := by decide +kernel
theorem dJ0_init_db425_90 : decode cJ0_init_db425 90 = .ok (.ishl, 1) := by decide +kernel
theorem dJ0_init_db425_91 : decode cJ0_init_db425 91 = .ok (.invokestatic 54, 3) := by decide +kernel
theorem dJ0_init_db425_94 : decode cJ0_init_db425 94 = .ok (.putfield 9, 3) := by decide +kernel
theorem dJ0_init_db425_97 : decode cJ0_init_db425 97 = .ok (.return_, 1) := by decide +kernel
theorem dJ0_coder_7d493_0 : decode cJ0_coder_7d493 0 = .ok (.getstatic 38, 3) := by decide +kernel
theorem dJ0_coder_7d493_3 : decode cJ0_coder_7d493 3 = .ok (.ifCond .eq 10, 3) := by decide +kernel
theorem dJ0_coder_7d493_6 : decode cJ0_coder_7d493 6 = .ok (.aload_n 0, 1) := by decide +kernel
theorem dJ0_coder_7d493_7 : decode cJ0_coder_7d493 7 = .ok (.getfield 15, 3) := by decide +kernel
theorem dJ0_coder_7d493_10 : decode cJ0_coder_7d493 10 = .ok (.goto 4, 3) := by decide +kernel
theorem dJ0_coder_7d493_13 : decode cJ0_coder_7d493 13 = .ok (.iconst 1, 1) := by decide +kernel
theorem dJ0_coder_7d493_14 : decode cJ0_coder_7d493 14 = .ok (.ireturn, 1) := by decide +kernel
theorem dJ0_isLatin1_aae02_0 : decode cJ0_isLatin1_aae02 0 = .ok (.getstatic 38, 3) := by decide +kernel
theorem dJ0_isLatin1_aae02_3 : decode cJ0_isLatin1_aae02 3 = .ok (.ifCond .eq 14, 3) := by decide +kernel
theorem dJ0_isLatin1_aae02_6 : decode cJ0_isLatin1_aae02 6 = .ok (.aload_n 0, 1) := by decide +kernel
theorem dJ0_isLatin1_aae02_7 : decode cJ0_isLatin1_aae02 7 = .ok (.getfield 15, 3) := by decide +kernel
theorem dJ0_isLatin1_aae02_10 : decode cJ0_isLatin1_aae02 10 = .ok (.ifCond .ne 7, 3) := by decide +kernel
theorem dJ0_isLatin1_aae02_13 : decode cJ0_isLatin1_aae02 13 = .ok (.iconst 1, 1) := by decide +kernel
theorem dJ0_isLatin1_aae02_14 : decode cJ0_isLatin1_aae02 14 = .ok (.goto 4, 3) := by decide +kernel
theorem dJ0_isLatin1_aae02_17 : decode cJ0_isLatin1_aae02 17 = .ok (.iconst 0, 1) := by decide +kernel
theorem dJ0_isLatin1_aae02_18 : decode cJ0_isLatin1_aae02 18 = .ok (.ireturn, 1) := by decide +kernel
theorem dJ0_checkIndex_df160_0 : decode cJ0_checkIndex_df160 0 = .ok (.iload_n 0, 1) := by decide +kernel
theorem dJ0_checkIndex_df160_1 : decode cJ0_checkIndex_df160 1 = .ok (.iload_n 1, 1) := by decide +kernel
theorem dJ0_checkIndex_df160_2 : decode cJ0_checkIndex_df160 2 = .ok (.getstatic 1053, 3) := by decide +kernel
theorem dJ0_checkIndex_df160_5 : decode cJ0_checkIndex_df160 5 = .ok (.invokestatic 1059, 3) := by decide +kernel
theorem dJ0_checkIndex_df160_8 : decode cJ0_checkIndex_df160 8 = .ok (.pop, 1) := by decide +kernel
theorem dJ0_checkIndex_df160_9 : decode cJ0_checkIndex_df160 9 = .ok (.return_, 1) := by decide +kernel
theorem dJ0_checkBoundsOffCount_cabcc_0 : decode cJ0_checkBoundsOffCount_cabcc 0 = .ok (.iload_n 0, 1) := by decide +kernel
theorem dJ0_checkBoundsOffCount_cabcc_1 : decode cJ0_checkBoundsOffCount_cabcc 1 = .ok (.iload_n 1, 1) := by decide +kernel
theorem dJ0_checkBoundsOffCount_cabcc_2 : decode cJ0_checkBoundsOffCount_cabcc 2 = .ok (.iload_n 2, 1) := by decide +kernel
theorem dJ0_checkBoundsOffCount_cabcc_3 : decode cJ0_checkBoundsOffCount_cabcc 3 = .ok (.getstatic 1053, 3) := by decide +kernel
theorem dJ0_checkBoundsOffCount_cabcc_6 : decode cJ0_checkBoundsOffCount_cabcc 6 = .ok (.invokestatic 1065, 3) := by decide +kernel
theorem dJ0_checkBoundsOffCount_cabcc_9 : decode cJ0_checkBoundsOffCount_cabcc 9 = .ok (.ireturn, 1) := by decide +kernel
theorem dJ0_checkBoundsBeginEnd_23922_0 : decode cJ0_checkBoundsBeginEnd_23922 0 = .ok (.iload_n 0, 1) := by decide +kernel
theorem dJ0_checkBoundsBeginEnd_23922_1 : decode cJ0_checkBoundsBeginEnd_23922 1 = .ok (.iload_n 1, 1) := by decide +kernel
theorem dJ0_checkBoundsBeginEnd_23922_2 : decode cJ0_checkBoundsBeginEnd_23922 2 = .ok (.iload_n 2, 1) := by decide +kernel
theorem dJ0_checkBoundsBeginEnd_23922_3 : decode cJ0_checkBoundsBeginEnd_23922 3 = .ok (.getstatic 1053, 3) := by decide +kernel
theorem dJ0_checkBoundsBeginEnd_23922_6 : decode cJ0_checkBoundsBeginEnd_23922 6 = .ok (.invokestatic 1062, 3) := by decide +kernel
theorem dJ0_checkBoundsBeginEnd_23922_9 : decode cJ0_checkBoundsBeginEnd_23922 9 = .ok (.pop, 1) := by decide +kernel
theorem dJ0_checkBoundsBeginEnd_23922_10 : decode cJ0_checkBoundsBeginEnd_23922 10 = .ok (.return_, 1) := by decide +kernel
theorem dJ4_init_da8c8_0 : decode cJ4_init_da8c8 0 = .ok (.aload_n 0, 1) := by decide +kernel
theorem dJ4_init_da8c8_1 : decode cJ4_init_da8c8 1 = .ok (.bipush 16, 2) := by decide +kernel
theorem dJ4_init_da8c8_3 : decode cJ4_init_da8c8 3 = .ok (.invokespecial 1, 3) := by decide +kernel
theorem dJ4_init_da8c8_6 : decode cJ4_init_da8c8 6 = .ok (.return_, 1) := by decide +kernel
theorem dJ4_init_a7421_0 : decode cJ4_init_a7421 0 = .ok (.aload_n 0, 1) := by decide +kernel
theorem dJ4_init_a7421_1 : decode cJ4_init_a7421 1 = .ok (.aload_n 1, 1) := by decide +kernel
theorem dJ4_init_a7421_2 : decode cJ4_init_a7421 2 = .ok (.invokespecial 7, 3) := by decide +kernel
theorem dJ4_init_a7421_5 : decode cJ4_init_a7421 5 = .ok (.return_, 1) := by decide +kernel
theorem dJ4_append_15ec4_0 : decode cJ4_append_15ec4 0 = .ok (.aload_n 0, 1) := by decide +kernel
theorem dJ4_append_15ec4_1 : decode cJ4_append_15ec4 1 = .ok (.aload_n 1, 1) := by decide +kernel
theorem dJ4_append_15ec4_2 : decode cJ4_append_15ec4 2 = .ok (.invokespecial 29, 3) := by decide +kernel
theorem dJ4_append_15ec4_5 : decode cJ4_append_15ec4 5 = .ok (.pop, 1) := by decide +kernel
theorem dJ4_append_15ec4_6 : decode cJ4_append_15ec4 6 = .ok (.aload_n 0, 1) := by decide +kernel
theorem dJ4_append_15ec4_7 : decode cJ4_append_15ec4 7 = .ok (.areturn, 1) := by decide +kernel
theorem dJ4_append_cf468_0 : decode cJ4_append_cf468 0 = .ok (.aload_n 0, 1) := by decide +kernel
theorem dJ4_append_cf468_1 : decode cJ4_append_cf468 1 = .ok (.iload_n 1, 1) := by decide +kernel
theorem dJ4_append_cf468_2 : decode cJ4_append_cf468 2 = .ok (.invokespecial 50, 3) := by decide +kernel
theorem dJ4_append_cf468_5 : decode cJ4_append_cf468 5 = .ok (.pop, 1) := by decide +kernel
theorem dJ4_append_cf468_6 : decode cJ4_append_cf468 6 = .ok (.aload_n 0, 1) := by decide +kernel
theorem dJ4_append_cf468_7 : decode cJ4_append_cf468 7 = .ok (.areturn, 1) := by decide +kernel
theorem dJ4_append_bf812_0 : decode cJ4_append_bf812 0 = .ok (.aload_n 0, 1) := by decide +kernel
theorem dJ4_append_bf812_1 : decode cJ4_append_bf812 1 = .ok (.iload_n 1, 1) := by decide +kernel
theorem dJ4_append_bf812_2 : decode cJ4_append_bf812 2 = .ok (.invokespecial 53, 3) := by decide +kernel
theorem dJ4_append_bf812_5 : decode cJ4_append_bf812 5 = .ok (.pop, 1) := by decide +kernel
theorem dJ4_append_bf812_6 : decode cJ4_append_bf812 6 = .ok (.aload_n 0, 1) := by decide +kernel
theorem dJ4_append_bf812_7 : decode cJ4_append_bf812 7 = .ok (.areturn, 1) := by decide +kernel
theorem dJ4_toString_0e30d_0 : decode cJ4_toString_0e30d 0 = .ok (.new 18, 3) := by decide +kernel
theorem dJ4_toString_0e30d_3 : decode cJ4_toString_0e30d 3 = .ok (.dup, 1) := by decide +kernel
theorem dJ4_toString_0e30d_4 : decode cJ4_toString_0e30d 4 = .ok (.aload_n 0, 1) := by decide +kernel
theorem dJ4_toString_0e30d_5 : decode cJ4_toString_0e30d 5 = .ok (.invokespecial 137, 3) := by decide +kernel
theorem dJ4_toString_0e30d_8 : decode cJ4_toString_0e30d 8 = .ok (.areturn, 1) := by decide +kernel
theorem dJ4_append_cf1ce_0 : decode cJ4_append_cf1ce 0 = .ok (.aload_n 0, 1) := by decide +kernel
theorem dJ4_append_cf1ce_1 : decode cJ4_append_cf1ce 1 = .ok (.aload_n 1, 1) := by decide +kernel
theorem dJ4_append_cf1ce_2 : decode cJ4_append_cf1ce 2 = .ok (.invokevirtual 23, 3) := by decide +kernel
theorem dJ4_append_cf1ce_5 : decode cJ4_append_cf1ce 5 = .ok (.areturn, 1) := by decide +kernel
theorem dJ4_length_8abf5_0 : decode cJ4_length_8abf5 0 = .ok (.aload_n 0, 1) := by decide +kernel
theorem dJ4_length_8abf5_1 : decode cJ4_length_8abf5 1 = .ok (.invokespecial 343, 3) := by decide +kernel
theorem dJ4_length_8abf5_4 : decode cJ4_length_8abf5 4 = .ok (.ireturn, 1) := by decide +kernel
theorem dJ1_charAt_3b067_0 : decode cJ1_charAt_3b067 0 = .ok (.iload_n 1, 1) := by decide +kernel
theorem dJ1_charAt_3b067_1 : decode cJ1_charAt_3b067 1 = .ok (.aload_n 0, 1) := by decide +kernel
theorem dJ1_charAt_3b067_2 : decode cJ1_charAt_3b067 2 = .ok (.arraylength, 1) := by decide +kernel
theorem dJ1_charAt_3b067_3 : decode cJ1_charAt_3b067 3 = .ok (.invokestatic 9, 3) := by decide +kernel
theorem dJ1_charAt_3b067_6 : decode cJ1_charAt_3b067 6 = .ok (.aload_n 0, 1) := by decide +kernel
theorem dJ1_charAt_3b067_7 : decode cJ1_charAt_3b067 7 = .ok (.iload_n 1, 1) := by decide +kernel
theorem dJ1_charAt_3b067_8 : decode cJ1_charAt_3b067 8 = .ok (.baload, 1) := by decide +kernel
theorem dJ1_charAt_3b067_9 : decode cJ1_charAt_3b067 9 = .ok (.sipush 255, 3) := by decide +kernel
theorem dJ1_charAt_3b067_12 : decode cJ1_charAt_3b067 12 = .ok (.iand, 1) := by decide +kernel
theorem dJ1_charAt_3b067_13 : decode cJ1_charAt_3b067 13 = .ok (.i2c, 1) := by decide +kernel
theorem dJ1_charAt_3b067_14 : decode cJ1_charAt_3b067 14 = .ok (.ireturn, 1) := by decide +kernel
theorem dJ1_canEncode_fc78d_0 : decode cJ1_canEncode_fc78d 0 = .ok (.iload_n 0, 1) := by decide +kernel
theorem dJ1_canEncode_fc78d_1 : decode cJ1_canEncode_fc78d 1 = .ok (.sipush 255, 3) := by decide +kernel
theorem dJ1_canEncode_fc78d_4 : decode cJ1_canEncode_fc78d 4 = .ok (.if_icmp .gt 7, 3) := by decide +kernel
theorem dJ1_canEncode_fc78d_7 : decode cJ1_canEncode_fc78d 7 = .ok (.iconst 1, 1) := by decide +kernel
theorem dJ1_canEncode_fc78d_8 : decode cJ1_canEncode_fc78d 8 = .ok (.goto 4, 3) := by decide +kernel
theorem dJ1_canEncode_fc78d_11 : decode cJ1_canEncode_fc78d 11 = .ok (.iconst 0, 1) := by decide +kernel
theorem dJ1_canEncode_fc78d_12 : decode cJ1_canEncode_fc78d 12 = .ok (.ireturn, 1) := by decide +kernel
theorem dJ1_inflate_0e8fd_0 : decode cJ1_inflate_0e8fd 0 = .ok (.aload_n 0, 1) := by decide +kernel
theorem dJ1_inflate_0e8fd_1 : decode cJ1_inflate_0e8fd 1 = .ok (.iload_n 1, 1) := by decide +kernel
theorem dJ1_inflate_0e8fd_2 : decode cJ1_inflate_0e8fd 2 = .ok (.aload_n 2, 1) := by decide +kernel
theorem dJ1_inflate_0e8fd_3 : decode cJ1_inflate_0e8fd 3 = .ok (.iload_n 3, 1) := by decide +kernel
theorem dJ1_inflate_0e8fd_4 : decode cJ1_inflate_0e8fd 4 = .ok (.iload 4, 2) := by decide +kernel
theorem dJ1_inflate_0e8fd_6 : decode cJ1_inflate_0e8fd 6 = .ok (.invokestatic 240, 3) := by decide +kernel
theorem dJ1_inflate_0e8fd_9 : decode cJ1_inflate_0e8fd 9 = .ok (.return_, 1) := by decide +kernel
theorem dJ2_newBytesFor_77867_0 : decode cJ2_newBytesFor_77867 0 = .ok (.iload_n 0, 1) := by decide +kernel
theorem dJ2_newBytesFor_77867_1 : decode cJ2_newBytesFor_77867 1 = .ok (.invokestatic 11, 3) := by decide +kernel
theorem dJ2_newBytesFor_77867_4 : decode cJ2_newBytesFor_77867 4 = .ok (.newarray .byte, 2) := by decide +kernel
theorem dJ2_newBytesFor_77867_6 : decode cJ2_newBytesFor_77867 6 = .ok (.areturn, 1) := by decide +kernel
theorem dJ2_newBytesLength_0f7a4_0 : decode cJ2_newBytesLength_0f7a4 0 = .ok (.iload_n 0, 1) := by decide +kernel
theorem dJ2_newBytesLength_0f7a4_1 : decode cJ2_newBytesLength_0f7a4 1 = .ok (.ifCond .ge 11, 3) := by decide +kernel
theorem dJ2_newBytesLength_0f7a4_4 : decode cJ2_newBytesLength_0f7a4 4 = .ok (.new 17, 3) := by decide +kernel
theorem dJ2_newBytesLength_0f7a4_7 : decode cJ2_newBytesLength_0f7a4 7 = .ok (.dup, 1) := by decide +kernel
theorem dJ2_newBytesLength_0f7a4_8 : decode cJ2_newBytesLength_0f7a4 8 = .ok (.invokespecial 19, 3) := by decide +kernel
theorem dJ2_newBytesLength_0f7a4_11 : decode cJ2_newBytesLength_0f7a4 11 = .ok (.athrow, 1) := by decide +kernel
theorem dJ2_newBytesLength_0f7a4_12 : decode cJ2_newBytesLength_0f7a4 12 = .ok (.iload_n 0, 1) := by decide +kernel
theorem dJ2_newBytesLength_0f7a4_13 : decode cJ2_newBytesLength_0f7a4 13 = .ok (.ldc 20, 2) := by decide +kernel
theorem dJ2_newBytesLength_0f7a4_15 : decode cJ2_newBytesLength_0f7a4 15 = .ok (.if_icmp .lt 40, 3) := by decide +kernel
theorem dJ2_newBytesLength_0f7a4_18 : decode cJ2_newBytesLength_0f7a4 18 = .ok (.new 21, 3) := by decide +kernel
theorem dJ2_newBytesLength_0f7a4_21 : decode cJ2_newBytesLength_0f7a4 21 = .ok (.dup, 1) := by decide +kernel
theorem dJ2_newBytesLength_0f7a4_22 : decode cJ2_newBytesLength_0f7a4 22 = .ok (.new 23, 3) := by decide +kernel
theorem dJ2_newBytesLength_0f7a4_25 : decode cJ2_newBytesLength_0f7a4 25 = .ok (.dup, 1) := by decide +kernel
theorem dJ2_newBytesLength_0f7a4_26 : decode cJ2_newBytesLength_0f7a4 26 = .ok (.invokespecial 25, 3) := by decide +kernel
theorem dJ2_newBytesLength_0f7a4_29 : decode cJ2_newBytesLength_0f7a4 29 = .ok (.ldc 26, 2) := by decide +kernel
theorem dJ2_newBytesLength_0f7a4_31 : decode cJ2_newBytesLength_0f7a4 31 = .ok (.invokevirtual 28, 3) := by decide +kernel
theorem dJ2_newBytesLength_0f7a4_34 : decode cJ2_newBytesLength_0f7a4 34 = .ok (.iload_n 0, 1) := by decide +kernel
theorem dJ2_newBytesLength_0f7a4_35 : decode cJ2_newBytesLength_0f7a4 35 = .ok (.invokevirtual 32, 3) := by decide +kernel
theorem dJ2_newBytesLength_0f7a4_38 : decode cJ2_newBytesLength_0f7a4 38 = .ok (.ldc 35, 2) := by decide +kernel
theorem dJ2_newBytesLength_0f7a4_40 : decode cJ2_newBytesLength_0f7a4 40 = .ok (.invokevirtual 28, 3) := by decide +kernel
theorem dJ2_newBytesLength_0f7a4_43 : decode cJ2_newBytesLength_0f7a4 43 = .ok (.ldc 20, 2) := by decide +kernel
theorem dJ2_newBytesLength_0f7a4_45 : decode cJ2_newBytesLength_0f7a4 45 = .ok (.invokevirtual 32, 3) := by decide +kernel
theorem dJ2_newBytesLength_0f7a4_48 : decode cJ2_newBytesLength_0f7a4 48 = .ok (.invokevirtual 37, 3) := by decide +kernel
theorem dJ2_newBytesLength_0f7a4_51 : decode cJ2_newBytesLength_0f7a4 51 = .ok (.invokespecial 41, 3) := by decide +kernel
theorem dJ2_newBytesLength_0f7a4_54 : decode cJ2_newBytesLength_0f7a4 54 = .ok (.athrow, 1) := by decide +kernel
theorem dJ2_newBytesLength_0f7a4_55 : decode cJ2_newBytesLength_0f7a4 55 = .ok (.iload_n 0, 1) := by decide +kernel
theorem dJ2_newBytesLength_0f7a4_56 : decode cJ2_newBytesLength_0f7a4 56 = .ok (.iconst 1, 1) := by decide +kernel
theorem dJ2_newBytesLength_0f7a4_57 : decode cJ2_newBytesLength_0f7a4 57 = .ok (.ishl, 1) := by decide +kernel
theorem dJ2_newBytesLength_0f7a4_58 : decode cJ2_newBytesLength_0f7a4 58 = .ok (.ireturn, 1) := by decide +kernel
theorem dJ2_putChar_b72d1_0 : decode cJ2_putChar_b72d1 0 = .ok (.getstatic 44, 3) := by decide +kernel
theorem dJ2_putChar_b72d1_3 : decode cJ2_putChar_b72d1 3 = .ok (.ifCond .ne 25, 3) := by decide +kernel
theorem dJ2_putChar_b72d1_6 : decode cJ2_putChar_b72d1 6 = .ok (.iload_n 1, 1) := by decide +kernel
theorem dJ2_putChar_b72d1_7 : decode cJ2_putChar_b72d1 7 = .ok (.ifCond .lt 11, 3) := by decide +kernel
theorem dJ2_putChar_b72d1_10 : decode cJ2_putChar_b72d1 10 = .ok (.iload_n 1, 1) := by decide +kernel
theorem dJ2_putChar_b72d1_11 : decode cJ2_putChar_b72d1 11 = .ok (.aload_n 0, 1) := by decide +kernel
theorem dJ2_putChar_b72d1_12 : decode cJ2_putChar_b72d1 12 = .ok (.invokestatic 48, 3) := by decide +kernel
theorem dJ2_putChar_b72d1_15 : decode cJ2_putChar_b72d1 15 = .ok (.if_icmp .lt 13, 3) := by decide +kernel
theorem dJ2_putChar_b72d1_18 : decode cJ2_putChar_b72d1 18 = .ok (.new 52, 3) := by decide +kernel
theorem dJ2_putChar_b72d1_21 : decode cJ2_putChar_b72d1 21 = .ok (.dup, 1) := by decide +kernel
theorem dJ2_putChar_b72d1_22 : decode cJ2_putChar_b72d1 22 = .ok (.ldc 54, 2) := by decide +kernel
theorem dJ2_putChar_b72d1_24 : decode cJ2_putChar_b72d1 24 = .ok (.invokespecial 56, 3) := by decide +kernel
theorem dJ2_putChar_b72d1_27 : decode cJ2_putChar_b72d1 27 = .ok (.athrow, 1) := by decide +kernel
theorem dJ2_putChar_b72d1_28 : decode cJ2_putChar_b72d1 28 = .ok (.iload_n 1, 1) := by decide +kernel
theorem dJ2_putChar_b72d1_29 : decode cJ2_putChar_b72d1 29 = .ok (.iconst 1, 1) := by decide +kernel
theorem dJ2_putChar_b72d1_30 : decode cJ2_putChar_b72d1 30 = .ok (.ishl, 1) := by decide +kernel
theorem dJ2_putChar_b72d1_31 : decode cJ2_putChar_b72d1 31 = .ok (.istore_n 1, 1) := by decide +kernel
theorem dJ2_putChar_b72d1_32 : decode cJ2_putChar_b72d1 32 = .ok (.aload_n 0, 1) := by decide +kernel
theorem dJ2_putChar_b72d1_33 : decode cJ2_putChar_b72d1 33 = .ok (.iload_n 1, 1) := by decide +kernel
theorem dJ2_putChar_b72d1_34 : decode cJ2_putChar_b72d1 34 = .ok (.iinc 1 1, 3) := by decide +kernel
theorem dJ2_putChar_b72d1_37 : decode cJ2_putChar_b72d1 37 = .ok (.iload_n 2, 1) := by decide +kernel
theorem dJ2_putChar_b72d1_38 : decode cJ2_putChar_b72d1 38 = .ok (.getstatic 59, 3) := by decide +kernel
theorem dJ2_putChar_b72d1_41 : decode cJ2_putChar_b72d1 41 = .ok (.ishr, 1) := by decide +kernel
theorem dJ2_putChar_b72d1_42 : decode cJ2_putChar_b72d1 42 = .ok (.i2b, 1) := by decide +kernel
theorem dJ2_putChar_b72d1_43 : decode cJ2_putChar_b72d1 43 = .ok (.bastore, 1) := by decide +kernel
theorem dJ2_putChar_b72d1_44 : decode cJ2_putChar_b72d1 44 = .ok (.aload_n 0, 1) := by decide +kernel
theorem dJ2_putChar_b72d1_45 : decode cJ2_putChar_b72d1 45 = .ok (.iload_n 1, 1) := by decide +kernel
theorem dJ2_putChar_b72d1_46 : decode cJ2_putChar_b72d1 46 = .ok (.iload_n 2, 1) := by decide +kernel
theorem dJ2_putChar_b72d1_47 : decode cJ2_putChar_b72d1 47 = .ok (.getstatic 63, 3) := by decide +kernel
theorem dJ2_putChar_b72d1_50 : decode cJ2_putChar_b72d1 50 = .ok (.ishr, 1) := by decide +kernel
theorem dJ2_putChar_b72d1_51 : decode cJ2_putChar_b72d1 51 = .ok (.i2b, 1) := by decide +kernel
theorem dJ2_putChar_b72d1_52 : decode cJ2_putChar_b72d1 52 = .ok (.bastore, 1) := by decide +kernel
theorem dJ2_putChar_b72d1_53 : decode cJ2_putChar_b72d1 53 = .ok (.return_, 1) := by decide +kernel
theorem dJ2_getChar_3b067_0 : decode cJ2_getChar_3b067 0 = .ok (.getstatic 44, 3) := by decide +kernel
theorem dJ2_getChar_3b067_3 : decode cJ2_getChar_3b067 3 = .ok (.ifCond .ne 25, 3) := by decide +kernel
theorem dJ2_getChar_3b067_6 : decode cJ2_getChar_3b067 6 = .ok (.iload_n 1, 1) := by decide +kernel
theorem dJ2_getChar_3b067_7 : decode cJ2_getChar_3b067 7 = .ok (.ifCond .lt 11, 3) := by decide +kernel
theorem dJ2_getChar_3b067_10 : decode cJ2_getChar_3b067 10 = .ok (.iload_n 1, 1) := by decide +kernel
theorem dJ2_getChar_3b067_11 : decode cJ2_getChar_3b067 11 = .ok (.aload_n 0, 1) := by decide +kernel
theorem dJ2_getChar_3b067_12 : decode cJ2_getChar_3b067 12 = .ok (.invokestatic 48, 3) := by decide +kernel
theorem dJ2_getChar_3b067_15 : decode cJ2_getChar_3b067 15 = .ok (.if_icmp .lt 13, 3) := by decide +kernel
theorem dJ2_getChar_3b067_18 : decode cJ2_getChar_3b067 18 = .ok (.new 52, 3) := by decide +kernel
theorem dJ2_getChar_3b067_21 : decode cJ2_getChar_3b067 21 = .ok (.dup, 1) := by decide +kernel
theorem dJ2_getChar_3b067_22 : decode cJ2_getChar_3b067 22 = .ok (.ldc 54, 2) := by decide +kernel
theorem dJ2_getChar_3b067_24 : decode cJ2_getChar_3b067 24 = .ok (.invokespecial 56, 3) := by decide +kernel
theorem dJ2_getChar_3b067_27 : decode cJ2_getChar_3b067 27 = .ok (.athrow, 1) := by decide +kernel
theorem dJ2_getChar_3b067_28 : decode cJ2_getChar_3b067 28 = .ok (.iload_n 1, 1) := by decide +kernel
theorem dJ2_getChar_3b067_29 : decode cJ2_getChar_3b067 29 = .ok (.iconst 1, 1) := by decide +kernel
theorem dJ2_getChar_3b067_30 : decode cJ2_getChar_3b067 30 = .ok (.ishl, 1) := by decide +kernel
theorem dJ2_getChar_3b067_31 : decode cJ2_getChar_3b067 31 = .ok (.istore_n 1, 1) := by decide +kernel
theorem dJ2_getChar_3b067_32 : decode cJ2_getChar_3b067 32 = .ok (.aload_n 0, 1) := by decide +kernel
theorem dJ2_getChar_3b067_33 : decode cJ2_getChar_3b067 33 = .ok (.iload_n 1, 1) := by decide +kernel
theorem dJ2_getChar_3b067_34 : decode cJ2_getChar_3b067 34 = .ok (.iinc 1 1, 3) := by decide +kernel
theorem dJ2_getChar_3b067_37 : decode cJ2_getChar_3b067 37 = .ok (.baload, 1) := by decide +kernel
theorem dJ2_getChar_3b067_38 : decode cJ2_getChar_3b067 38 = .ok (.sipush 255, 3) := by decide +kernel
theorem dJ2_getChar_3b067_41 : decode cJ2_getChar_3b067 41 = .ok (.iand, 1) := by decide +kernel
theorem dJ2_getChar_3b067_42 : decode cJ2_getChar_3b067 42 = .ok (.getstatic 59, 3) := by decide +kernel
theorem dJ2_getChar_3b067_45 : decode cJ2_getChar_3b067 45 = .ok (.ishl, 1) := by decide +kernel
theorem dJ2_getChar_3b067_46 : decode cJ2_getChar_3b067 46 = .ok (.aload_n 0, 1) := by decide +kernel
theorem dJ2_getChar_3b067_47 : decode cJ2_getChar_3b067 47 = .ok (.iload_n 1, 1) := by decide +kernel
theorem dJ2_getChar_3b067_48 : decode cJ2_getChar_3b067 48 = .ok (.baload, 1) := by decide +kernel
theorem dJ2_getChar_3b067_49 : decode cJ2_getChar_3b067 49 = .ok (.sipush 255, 3) := by decide +kernel
theorem dJ2_getChar_3b067_52 : decode cJ2_getChar_3b067 52 = .ok (.iand, 1) := by decide +kernel
theorem dJ2_getChar_3b067_53 : decode cJ2_getChar_3b067 53 = .ok (.getstatic 63, 3) := by decide +kernel
theorem dJ2_getChar_3b067_56 : decode cJ2_getChar_3b067 56 = .ok (.ishl, 1) := by decide +kernel
theorem dJ2_getChar_3b067_57 : decode cJ2_getChar_3b067 57 = .ok (.ior, 1) := by decide +kernel
theorem dJ2_getChar_3b067_58 : decode cJ2_getChar_3b067 58 = .ok (.i2c, 1) := by decide +kernel
theorem dJ2_getChar_3b067_59 : decode cJ2_getChar_3b067 59 = .ok (.ireturn, 1) := by decide +kernel
theorem dJ2_length_9d52b_0 : decode cJ2_length_9d52b 0 = .ok (.aload_n 0, 1) := by decide +kernel
theorem dJ2_length_9d52b_1 : decode cJ2_length_9d52b 1 = .ok (.arraylength, 1) := by decide +kernel
theorem dJ2_length_9d52b_2 : decode cJ2_length_9d52b 2 = .ok (.iconst 1, 1) := by decide +kernel
theorem dJ2_length_9d52b_3 : decode cJ2_length_9d52b 3 = .ok (.ishr, 1) := by decide +kernel
theorem dJ2_length_9d52b_4 : decode cJ2_length_9d52b 4 = .ok (.ireturn, 1) := by decide +kernel
theorem dJ2_coderFromArrayLen_85cad_0 : decode cJ2_coderFromArrayLen_85cad 0 = .ok (.iload_n 1, 1) := by decide +kernel
theorem dJ2_coderFromArrayLen_85cad_1 : decode cJ2_coderFromArrayLen_85cad 1 = .ok (.aload_n 0, 1) := by decide +kernel
theorem dJ2_coderFromArrayLen_85cad_2 : decode cJ2_coderFromArrayLen_85cad 2 = .ok (.arraylength, 1) := by decide +kernel
theorem dJ2_coderFromArrayLen_85cad_3 : decode cJ2_coderFromArrayLen_85cad 3 = .ok (.isub, 1) := by decide +kernel
theorem dJ2_coderFromArrayLen_85cad_4 : decode cJ2_coderFromArrayLen_85cad 4 = .ok (.bipush 31, 2) := by decide +kernel
theorem dJ2_coderFromArrayLen_85cad_6 : decode cJ2_coderFromArrayLen_85cad 6 = .ok (.iushr, 1) := by decide +kernel
theorem dJ2_coderFromArrayLen_85cad_7 : decode cJ2_coderFromArrayLen_85cad 7 = .ok (.i2b, 1) := by decide +kernel
theorem dJ2_coderFromArrayLen_85cad_8 : decode cJ2_coderFromArrayLen_85cad 8 = .ok (.ireturn, 1) := by decide +kernel
theorem dJ2_compress_39247_0 : decode cJ2_compress_39247 0 = .ok (.iload_n 2, 1) := by decide +kernel
theorem dJ2_compress_39247_1 : decode cJ2_compress_39247 1 = .ok (.newarray .byte, 2) := by decide +kernel
theorem dJ2_compress_39247_3 : decode cJ2_compress_39247 3 = .ok (.astore_n 3, 1) := by decide +kernel
theorem dJ2_compress_39247_4 : decode cJ2_compress_39247 4 = .ok (.aload_n 0, 1) := by decide +kernel
theorem dJ2_compress_39247_5 : decode cJ2_compress_39247 5 = .ok (.iload_n 1, 1) := by decide +kernel
theorem dJ2_compress_39247_6 : decode cJ2_compress_39247 6 = .ok (.aload_n 3, 1) := by decide +kernel
theorem dJ2_compress_39247_7 : decode cJ2_compress_39247 7 = .ok (.iconst 0, 1) := by decide +kernel
theorem dJ2_compress_39247_8 : decode cJ2_compress_39247 8 = .ok (.iload_n 2, 1) := by decide +kernel
theorem dJ2_compress_39247_9 : decode cJ2_compress_39247 9 = .ok (.invokestatic 123, 3) := by decide +kernel
theorem dJ2_compress_39247_12 : decode cJ2_compress_39247 12 = .ok (.istore 4, 2) := by decide +kernel
theorem dJ2_compress_39247_14 : decode cJ2_compress_39247 14 = .ok (.iload 4, 2) := by decide +kernel
theorem dJ2_compress_39247_16 : decode cJ2_compress_39247 16 = .ok (.iload_n 2, 1) := by decide +kernel
theorem dJ2_compress_39247_17 : decode cJ2_compress_39247 17 = .ok (.if_icmp .eq 47, 3) := by decide +kernel
theorem dJ2_compress_39247_20 : decode cJ2_compress_39247 20 = .ok (.aload_n 0, 1) := by decide +kernel
theorem dJ2_compress_39247_21 : decode cJ2_compress_39247 21 = .ok (.iload_n 1, 1) := by decide +kernel
theorem dJ2_compress_39247_22 : decode cJ2_compress_39247 22 = .ok (.iconst 1, 1) := by decide +kernel
theorem dJ2_compress_39247_23 : decode cJ2_compress_39247 23 = .ok (.ishl, 1) := by decide +kernel
theorem dJ2_compress_39247_24 : decode cJ2_compress_39247 24 = .ok (.iload_n 1, 1) := by decide +kernel
theorem dJ2_compress_39247_25 : decode cJ2_compress_39247 25 = .ok (.iload_n 2, 1) := by decide +kernel
theorem dJ2_compress_39247_26 : decode cJ2_compress_39247 26 = .ok (.iadd, 1) := by decide +kernel
theorem dJ2_compress_39247_27 : decode cJ2_compress_39247 27 = .ok (.invokestatic 11, 3) := by decide +kernel
theorem dJ2_compress_39247_30 : decode cJ2_compress_39247 30 = .ok (.invokestatic 126, 3) := by decide +kernel
theorem dJ2_compress_39247_33 : decode cJ2_compress_39247 33 = .ok (.astore 5, 2) := by decide +kernel
theorem dJ2_compress_39247_35 : decode cJ2_compress_39247 35 = .ok (.aload 5, 2) := by decide +kernel
theorem dJ2_compress_39247_37 : decode cJ2_compress_39247 37 = .ok (.iload 4, 2) := by decide +kernel
theorem dJ2_compress_39247_39 : decode cJ2_compress_39247 39 = .ok (.invokestatic 71, 3) := by decide +kernel
theorem dJ2_compress_39247_42 : decode cJ2_compress_39247 42 = .ok (.sipush 255, 3) := by decide +kernel
theorem dJ2_compress_39247_45 : decode cJ2_compress_39247 45 = .ok (.if_icmp .gt 16, 3) := by decide +kernel
theorem dJ2_compress_39247_48 : decode cJ2_compress_39247 48 = .ok (.aload 5, 2) := by decide +kernel
theorem dJ2_compress_39247_50 : decode cJ2_compress_39247 50 = .ok (.iconst 0, 1) := by decide +kernel
theorem dJ2_compress_39247_51 : decode cJ2_compress_39247 51 = .ok (.aload_n 3, 1) := by decide +kernel
theorem dJ2_compress_39247_52 : decode cJ2_compress_39247 52 = .ok (.iconst 0, 1) := by decide +kernel
theorem dJ2_compress_39247_53 : decode cJ2_compress_39247 53 = .ok (.iload_n 2, 1) := by decide +kernel
theorem dJ2_compress_39247_54 : decode cJ2_compress_39247 54 = .ok (.invokestatic 123, 3) := by decide +kernel
theorem dJ2_compress_39247_57 : decode cJ2_compress_39247 57 = .ok (.iload_n 2, 1) := by decide +kernel
theorem dJ2_compress_39247_58 : decode cJ2_compress_39247 58 = .ok (.if_icmp .eq 6, 3) := by decide +kernel
theorem dJ2_compress_39247_61 : decode cJ2_compress_39247 61 = .ok (.aload 5, 2) := by decide +kernel
theorem dJ2_compress_39247_63 : decode cJ2_compress_39247 63 = .ok (.areturn, 1) := by decide +kernel
theorem dJ2_compress_39247_64 : decode cJ2_compress_39247 64 = .ok (.aload_n 3, 1) := by decide +kernel
theorem dJ2_compress_39247_65 : decode cJ2_compress_39247 65 = .ok (.areturn, 1) := by decide +kernel
theorem dJ2_compress_5af95_0 : decode cJ2_compress_5af95 0 = .ok (.iload_n 1, 1) := by decide +kernel
theorem dJ2_compress_5af95_1 : decode cJ2_compress_5af95 1 = .ok (.iload 4, 2) := by decide +kernel
theorem dJ2_compress_5af95_3 : decode cJ2_compress_5af95 3 = .ok (.aload_n 0, 1) := by decide +kernel
theorem dJ2_compress_5af95_4 : decode cJ2_compress_5af95 4 = .ok (.invokestatic 173, 3) := by decide +kernel
theorem dJ2_compress_5af95_7 : decode cJ2_compress_5af95 7 = .ok (.iconst 0, 1) := by decide +kernel
theorem dJ2_compress_5af95_8 : decode cJ2_compress_5af95 8 = .ok (.istore 5, 2) := by decide +kernel
theorem dJ2_compress_5af95_10 : decode cJ2_compress_5af95 10 = .ok (.iload 5, 2) := by decide +kernel
theorem dJ2_compress_5af95_12 : decode cJ2_compress_5af95 12 = .ok (.iload 4, 2) := by decide +kernel
theorem dJ2_compress_5af95_14 : decode cJ2_compress_5af95 14 = .ok (.if_icmp .ge 39, 3) := by decide +kernel
theorem dJ2_compress_5af95_17 : decode cJ2_compress_5af95 17 = .ok (.aload_n 0, 1) := by decide +kernel
theorem dJ2_compress_5af95_18 : decode cJ2_compress_5af95 18 = .ok (.iload_n 1, 1) := by decide +kernel
theorem dJ2_compress_5af95_19 : decode cJ2_compress_5af95 19 = .ok (.invokestatic 71, 3) := by decide +kernel
theorem dJ2_compress_5af95_22 : decode cJ2_compress_5af95 22 = .ok (.istore 6, 2) := by decide +kernel
theorem dJ2_compress_5af95_24 : decode cJ2_compress_5af95 24 = .ok (.iload 6, 2) := by decide +kernel
theorem dJ2_compress_5af95_26 : decode cJ2_compress_5af95 26 = .ok (.sipush 255, 3) := by decide +kernel
theorem dJ2_compress_5af95_29 : decode cJ2_compress_5af95 29 = .ok (.if_icmp .le 6, 3) := by decide +kernel
theorem dJ2_compress_5af95_32 : decode cJ2_compress_5af95 32 = .ok (.iload 5, 2) := by decide +kernel
theorem dJ2_compress_5af95_34 : decode cJ2_compress_5af95 34 = .ok (.ireturn, 1) := by decide +kernel
theorem dJ2_compress_5af95_35 : decode cJ2_compress_5af95 35 = .ok (.aload_n 2, 1) := by decide +kernel
theorem dJ2_compress_5af95_36 : decode cJ2_compress_5af95 36 = .ok (.iload_n 3, 1) := by decide +kernel
theorem dJ2_compress_5af95_37 : decode cJ2_compress_5af95 37 = .ok (.iload 6, 2) := by decide +kernel
theorem dJ2_compress_5af95_39 : decode cJ2_compress_5af95 39 = .ok (.i2b, 1) := by decide +kernel
theorem dJ2_compress_5af95_40 : decode cJ2_compress_5af95 40 = .ok (.bastore, 1) := by decide +kernel
theorem dJ2_compress_5af95_41 : decode cJ2_compress_5af95 41 = .ok (.iinc 1 1, 3) := by decide +kernel
theorem dJ2_compress_5af95_44 : decode cJ2_compress_5af95 44 = .ok (.iinc 3 1, 3) := by decide +kernel
theorem dJ2_compress_5af95_47 : decode cJ2_compress_5af95 47 = .ok (.iinc 5 1, 3) := by decide +kernel
theorem dJ2_compress_5af95_50 : decode cJ2_compress_5af95 50 = .ok (.goto (-40), 3) := by decide +kernel
theorem dJ2_compress_5af95_53 : decode cJ2_compress_5af95 53 = .ok (.iload 4, 2) := by decide +kernel
theorem dJ2_compress_5af95_55 : decode cJ2_compress_5af95 55 = .ok (.ireturn, 1) := by decide +kernel
theorem dJ2_putCharSB_b72d1_0 : decode cJ2_putCharSB_b72d1 0 = .ok (.iload_n 1, 1) := by decide +kernel
theorem dJ2_putCharSB_b72d1_1 : decode cJ2_putCharSB_b72d1 1 = .ok (.aload_n 0, 1) := by decide +kernel
theorem dJ2_putCharSB_b72d1_2 : decode cJ2_putCharSB_b72d1 2 = .ok (.invokestatic 67, 3) := by decide +kernel
theorem dJ2_putCharSB_b72d1_5 : decode cJ2_putCharSB_b72d1 5 = .ok (.aload_n 0, 1) := by decide +kernel
theorem dJ2_putCharSB_b72d1_6 : decode cJ2_putCharSB_b72d1 6 = .ok (.iload_n 1, 1) := by decide +kernel
theorem dJ2_putCharSB_b72d1_7 : decode cJ2_putCharSB_b72d1 7 = .ok (.iload_n 2, 1) := by decide +kernel
theorem dJ2_putCharSB_b72d1_8 : decode cJ2_putCharSB_b72d1 8 = .ok (.invokestatic 111, 3) := by decide +kernel
theorem dJ2_putCharSB_b72d1_11 : decode cJ2_putCharSB_b72d1 11 = .ok (.return_, 1) := by decide +kernel
theorem dJ2_getChars_46870_0 : decode cJ2_getChars_46870 0 = .ok (.iload_n 1, 1) := by decide +kernel
theorem dJ2_getChars_46870_1 : decode cJ2_getChars_46870 1 = .ok (.iload_n 2, 1) := by decide +kernel
theorem dJ2_getChars_46870_2 : decode cJ2_getChars_46870 2 = .ok (.aload_n 3, 1) := by decide +kernel
theorem dJ2_getChars_46870_3 : decode cJ2_getChars_46870 3 = .ok (.invokestatic 96, 3) := by decide +kernel
theorem dJ2_getChars_46870_6 : decode cJ2_getChars_46870 6 = .ok (.iload_n 0, 1) := by decide +kernel
theorem dJ2_getChars_46870_7 : decode cJ2_getChars_46870 7 = .ok (.iload_n 2, 1) := by decide +kernel
theorem dJ2_getChars_46870_8 : decode cJ2_getChars_46870 8 = .ok (.aload_n 3, 1) := by decide +kernel
theorem dJ2_getChars_46870_9 : decode cJ2_getChars_46870 9 = .ok (.invokestatic 393, 3) := by decide +kernel
theorem dJ2_getChars_46870_12 : decode cJ2_getChars_46870 12 = .ok (.istore 4, 2) := by decide +kernel
theorem dJ2_getChars_46870_14 : decode cJ2_getChars_46870 14 = .ok (.getstatic 44, 3) := by decide +kernel
theorem dJ2_getChars_46870_17 : decode cJ2_getChars_46870 17 = .ok (.ifCond .ne 17, 3) := by decide +kernel
theorem dJ2_getChars_46870_20 : decode cJ2_getChars_46870 20 = .ok (.iload_n 1, 1) := by decide +kernel
theorem dJ2_getChars_46870_21 : decode cJ2_getChars_46870 21 = .ok (.iload 4, 2) := by decide +kernel
theorem dJ2_getChars_46870_23 : decode cJ2_getChars_46870 23 = .ok (.if_icmp .eq 11, 3) := by decide +kernel
theorem dJ2_getChars_46870_26 : decode cJ2_getChars_46870 26 = .ok (.new 52, 3) := by decide +kernel
theorem dJ2_getChars_46870_29 : decode cJ2_getChars_46870 29 = .ok (.dup, 1) := by decide +kernel
theorem dJ2_getChars_46870_30 : decode cJ2_getChars_46870 30 = .ok (.invokespecial 66, 3) := by decide +kernel
theorem dJ2_getChars_46870_33 : decode cJ2_getChars_46870 33 = .ok (.athrow, 1) := by decide +kernel
theorem dJ2_getChars_46870_34 : decode cJ2_getChars_46870 34 = .ok (.iload 4, 2) := by decide +kernel
theorem dJ2_getChars_46870_36 : decode cJ2_getChars_46870 36 = .ok (.ireturn, 1) := by decide +kernel
theorem dJ2_putCharsAt_cd4e5_0 : decode cJ2_putCharsAt_cd4e5 0 = .ok (.iload_n 1, 1) := by decide +kernel
theorem dJ2_putCharsAt_cd4e5_1 : decode cJ2_putCharsAt_cd4e5 1 = .ok (.iconst 4, 1) := by decide +kernel
theorem dJ2_putCharsAt_cd4e5_2 : decode cJ2_putCharsAt_cd4e5 2 = .ok (.iadd, 1) := by decide +kernel
theorem dJ2_putCharsAt_cd4e5_3 : decode cJ2_putCharsAt_cd4e5 3 = .ok (.istore 6, 2) := by decide +kernel
theorem dJ2_putCharsAt_cd4e5_5 : decode cJ2_putCharsAt_cd4e5 5 = .ok (.iload_n 1, 1) := by decide +kernel
theorem dJ2_putCharsAt_cd4e5_6 : decode cJ2_putCharsAt_cd4e5 6 = .ok (.iload 6, 2) := by decide +kernel
theorem dJ2_putCharsAt_cd4e5_8 : decode cJ2_putCharsAt_cd4e5 8 = .ok (.aload_n 0, 1) := by decide +kernel
theorem dJ2_putCharsAt_cd4e5_9 : decode cJ2_putCharsAt_cd4e5 9 = .ok (.invokestatic 96, 3) := by decide +kernel
theorem dJ2_putCharsAt_cd4e5_12 : decode cJ2_putCharsAt_cd4e5 12 = .ok (.aload_n 0, 1) := by decide +kernel
theorem dJ2_putCharsAt_cd4e5_13 : decode cJ2_putCharsAt_cd4e5 13 = .ok (.iload_n 1, 1) := by decide +kernel
theorem dJ2_putCharsAt_cd4e5_14 : decode cJ2_putCharsAt_cd4e5 14 = .ok (.iinc 1 1, 3) := by decide +kernel
theorem dJ2_putCharsAt_cd4e5_17 : decode cJ2_putCharsAt_cd4e5 17 = .ok (.iload_n 2, 1) := by decide +kernel
theorem dJ2_putCharsAt_cd4e5_18 : decode cJ2_putCharsAt_cd4e5 18 = .ok (.invokestatic 111, 3) := by decide +kernel
theorem dJ2_putCharsAt_cd4e5_21 : decode cJ2_putCharsAt_cd4e5 21 = .ok (.aload_n 0, 1) := by decide +kernel
theorem dJ2_putCharsAt_cd4e5_22 : decode cJ2_putCharsAt_cd4e5 22 = .ok (.iload_n 1, 1) := by decide +kernel
theorem dJ2_putCharsAt_cd4e5_23 : decode cJ2_putCharsAt_cd4e5 23 = .ok (.iinc 1 1, 3) := by decide +kernel
theorem dJ2_putCharsAt_cd4e5_26 : decode cJ2_putCharsAt_cd4e5 26 = .ok (.iload_n 3, 1) := by decide +kernel
theorem dJ2_putCharsAt_cd4e5_27 : decode cJ2_putCharsAt_cd4e5 27 = .ok (.invokestatic 111, 3) := by decide +kernel
theorem dJ2_putCharsAt_cd4e5_30 : decode cJ2_putCharsAt_cd4e5 30 = .ok (.aload_n 0, 1) := by decide +kernel
theorem dJ2_putCharsAt_cd4e5_31 : decode cJ2_putCharsAt_cd4e5 31 = .ok (.iload_n 1, 1) := by decide +kernel
theorem dJ2_putCharsAt_cd4e5_32 : decode cJ2_putCharsAt_cd4e5 32 = .ok (.iinc 1 1, 3) := by decide +kernel
theorem dJ2_putCharsAt_cd4e5_35 : decode cJ2_putCharsAt_cd4e5 35 = .ok (.iload 4, 2) := by decide +kernel
theorem dJ2_putCharsAt_cd4e5_37 : decode cJ2_putCharsAt_cd4e5 37 = .ok (.invokestatic 111, 3) := by decide +kernel
theorem dJ2_putCharsAt_cd4e5_40 : decode cJ2_putCharsAt_cd4e5 40 = .ok (.aload_n 0, 1) := by decide +kernel
theorem dJ2_putCharsAt_cd4e5_41 : decode cJ2_putCharsAt_cd4e5 41 = .ok (.iload_n 1, 1) := by decide +kernel
theorem dJ2_putCharsAt_cd4e5_42 : decode cJ2_putCharsAt_cd4e5 42 = .ok (.iinc 1 1, 3) := by decide +kernel
theorem dJ2_putCharsAt_cd4e5_45 : decode cJ2_putCharsAt_cd4e5 45 = .ok (.iload 5, 2) := by decide +kernel
theorem dJ2_putCharsAt_cd4e5_47 : decode cJ2_putCharsAt_cd4e5 47 = .ok (.invokestatic 111, 3) := by decide +kernel
theorem dJ2_putCharsAt_cd4e5_50 : decode cJ2_putCharsAt_cd4e5 50 = .ok (.getstatic 44, 3) := by decide +kernel
theorem dJ2_putCharsAt_cd4e5_53 : decode cJ2_putCharsAt_cd4e5 53 = .ok (.ifCond .ne 17, 3) := by decide +kernel
theorem dJ2_putCharsAt_cd4e5_56 : decode cJ2_putCharsAt_cd4e5 56 = .ok (.iload_n 1, 1) := by decide +kernel
theorem dJ2_putCharsAt_cd4e5_57 : decode cJ2_putCharsAt_cd4e5 57 = .ok (.iload 6, 2) := by decide +kernel
theorem dJ2_putCharsAt_cd4e5_59 : decode cJ2_putCharsAt_cd4e5 59 = .ok (.if_icmp .eq 11, 3) := by decide +kernel
theorem dJ2_putCharsAt_cd4e5_62 : decode cJ2_putCharsAt_cd4e5 62 = .ok (.new 52, 3) := by decide +kernel
theorem dJ2_putCharsAt_cd4e5_65 : decode cJ2_putCharsAt_cd4e5 65 = .ok (.dup, 1) := by decide +kernel
theorem dJ2_putCharsAt_cd4e5_66 : decode cJ2_putCharsAt_cd4e5 66 = .ok (.invokespecial 66, 3) := by decide +kernel
theorem dJ2_putCharsAt_cd4e5_69 : decode cJ2_putCharsAt_cd4e5 69 = .ok (.athrow, 1) := by decide +kernel
theorem dJ2_putCharsAt_cd4e5_70 : decode cJ2_putCharsAt_cd4e5 70 = .ok (.iload 6, 2) := by decide +kernel
theorem dJ2_putCharsAt_cd4e5_72 : decode cJ2_putCharsAt_cd4e5 72 = .ok (.ireturn, 1) := by decide +kernel
theorem dJ2_charAt_3b067_0 : decode cJ2_charAt_3b067 0 = .ok (.iload_n 1, 1) := by decide +kernel
theorem dJ2_charAt_3b067_1 : decode cJ2_charAt_3b067 1 = .ok (.aload_n 0, 1) := by decide +kernel
theorem dJ2_charAt_3b067_2 : decode cJ2_charAt_3b067 2 = .ok (.invokestatic 67, 3) := by decide +kernel
theorem dJ2_charAt_3b067_5 : decode cJ2_charAt_3b067 5 = .ok (.aload_n 0, 1) := by decide +kernel
theorem dJ2_charAt_3b067_6 : decode cJ2_charAt_3b067 6 = .ok (.iload_n 1, 1) := by decide +kernel
theorem dJ2_charAt_3b067_7 : decode cJ2_charAt_3b067 7 = .ok (.invokestatic 71, 3) := by decide +kernel
theorem dJ2_charAt_3b067_10 : decode cJ2_charAt_3b067 10 = .ok (.ireturn, 1) := by decide +kernel
theorem dJ2_inflate_0e8fd_0 : decode cJ2_inflate_0e8fd 0 = .ok (.iload_n 3, 1) := by decide +kernel
theorem dJ2_inflate_0e8fd_1 : decode cJ2_inflate_0e8fd 1 = .ok (.iload 4, 2) := by decide +kernel
theorem dJ2_inflate_0e8fd_3 : decode cJ2_inflate_0e8fd 3 = .ok (.aload_n 2, 1) := by decide +kernel
theorem dJ2_inflate_0e8fd_4 : decode cJ2_inflate_0e8fd 4 = .ok (.invokestatic 173, 3) := by decide +kernel
theorem dJ2_inflate_0e8fd_7 : decode cJ2_inflate_0e8fd 7 = .ok (.iconst 0, 1) := by decide +kernel
theorem dJ2_inflate_0e8fd_8 : decode cJ2_inflate_0e8fd 8 = .ok (.istore 5, 2) := by decide +kernel
theorem dJ2_inflate_0e8fd_10 : decode cJ2_inflate_0e8fd 10 = .ok (.iload 5, 2) := by decide +kernel
theorem dJ2_inflate_0e8fd_12 : decode cJ2_inflate_0e8fd 12 = .ok (.iload 4, 2) := by decide +kernel
theorem dJ2_inflate_0e8fd_14 : decode cJ2_inflate_0e8fd 14 = .ok (.if_icmp .ge 27, 3) := by decide +kernel
theorem dJ2_inflate_0e8fd_17 : decode cJ2_inflate_0e8fd 17 = .ok (.aload_n 2, 1) := by decide +kernel
theorem dJ2_inflate_0e8fd_18 : decode cJ2_inflate_0e8fd 18 = .ok (.iload_n 3, 1) := by decide +kernel
theorem dJ2_inflate_0e8fd_19 : decode cJ2_inflate_0e8fd 19 = .ok (.iinc 3 1, 3) := by decide +kernel
theorem dJ2_inflate_0e8fd_22 : decode cJ2_inflate_0e8fd 22 = .ok (.aload_n 0, 1) := by decide +kernel
theorem dJ2_inflate_0e8fd_23 : decode cJ2_inflate_0e8fd 23 = .ok (.iload_n 1, 1) := by decide +kernel
theorem dJ2_inflate_0e8fd_24 : decode cJ2_inflate_0e8fd 24 = .ok (.iinc 1 1, 3) := by decide +kernel
theorem dJ2_inflate_0e8fd_27 : decode cJ2_inflate_0e8fd 27 = .ok (.baload, 1) := by decide +kernel
theorem dJ2_inflate_0e8fd_28 : decode cJ2_inflate_0e8fd 28 = .ok (.sipush 255, 3) := by decide +kernel
theorem dJ2_inflate_0e8fd_31 : decode cJ2_inflate_0e8fd 31 = .ok (.iand, 1) := by decide +kernel
theorem dJ2_inflate_0e8fd_32 : decode cJ2_inflate_0e8fd 32 = .ok (.invokestatic 111, 3) := by decide +kernel
theorem dJ2_inflate_0e8fd_35 : decode cJ2_inflate_0e8fd 35 = .ok (.iinc 5 1, 3) := by decide +kernel
theorem dJ2_inflate_0e8fd_38 : decode cJ2_inflate_0e8fd 38 = .ok (.goto (-28), 3) := by decide +kernel
theorem dJ2_inflate_0e8fd_41 : decode cJ2_inflate_0e8fd 41 = .ok (.return_, 1) := by decide +kernel
theorem dJ2_getChars_ba4f3_0 : decode cJ2_getChars_ba4f3 0 = .ok (.iload_n 1, 1) := by decide +kernel
theorem dJ2_getChars_ba4f3_1 : decode cJ2_getChars_ba4f3 1 = .ok (.istore 5, 2) := by decide +kernel
theorem dJ2_getChars_ba4f3_3 : decode cJ2_getChars_ba4f3 3 = .ok (.iload_n 0, 1) := by decide +kernel
theorem dJ2_getChars_ba4f3_4 : decode cJ2_getChars_ba4f3 4 = .ok (.ifCond .ge 7, 3) := by decide +kernel
theorem dJ2_getChars_ba4f3_7 : decode cJ2_getChars_ba4f3 7 = .ok (.iconst 1, 1) := by decide +kernel
theorem dJ2_getChars_ba4f3_8 : decode cJ2_getChars_ba4f3 8 = .ok (.goto 4, 3) := by decide +kernel
theorem dJ2_getChars_ba4f3_11 : decode cJ2_getChars_ba4f3 11 = .ok (.iconst 0, 1) := by decide +kernel
theorem dJ2_getChars_ba4f3_12 : decode cJ2_getChars_ba4f3 12 = .ok (.istore 6, 2) := by decide +kernel
theorem dJ2_getChars_ba4f3_14 : decode cJ2_getChars_ba4f3 14 = .ok (.iload 6, 2) := by decide +kernel
theorem dJ2_getChars_ba4f3_16 : decode cJ2_getChars_ba4f3 16 = .ok (.ifCond .ne 6, 3) := by decide +kernel
theorem dJ2_getChars_ba4f3_19 : decode cJ2_getChars_ba4f3 19 = .ok (.iload_n 0, 1) := by decide +kernel
theorem dJ2_getChars_ba4f3_20 : decode cJ2_getChars_ba4f3 20 = .ok (.ineg, 1) := by decide +kernel
theorem dJ2_getChars_ba4f3_21 : decode cJ2_getChars_ba4f3 21 = .ok (.istore_n 0, 1) := by decide +kernel
theorem dJ2_getChars_ba4f3_22 : decode cJ2_getChars_ba4f3 22 = .ok (.iload_n 0, 1) := by decide +kernel
theorem dJ2_getChars_ba4f3_23 : decode cJ2_getChars_ba4f3 23 = .ok (.bipush (-100), 2) := by decide +kernel
theorem dJ2_getChars_ba4f3_25 : decode cJ2_getChars_ba4f3 25 = .ok (.if_icmp .gt 51, 3) := by decide +kernel
theorem dJ2_getChars_ba4f3_28 : decode cJ2_getChars_ba4f3 28 = .ok (.iload_n 0, 1) := by decide +kernel
theorem dJ2_getChars_ba4f3_29 : decode cJ2_getChars_ba4f3 29 = .ok (.bipush 100, 2) := by decide +kernel
theorem dJ2_getChars_ba4f3_31 : decode cJ2_getChars_ba4f3 31 = .ok (.idiv, 1) := by decide +kernel
theorem dJ2_getChars_ba4f3_32 : decode cJ2_getChars_ba4f3 32 = .ok (.istore_n 3, 1) := by decide +kernel
theorem dJ2_getChars_ba4f3_33 : decode cJ2_getChars_ba4f3 33 = .ok (.iload_n 3, 1) := by decide +kernel
theorem dJ2_getChars_ba4f3_34 : decode cJ2_getChars_ba4f3 34 = .ok (.bipush 100, 2) := by decide +kernel
theorem dJ2_getChars_ba4f3_36 : decode cJ2_getChars_ba4f3 36 = .ok (.imul, 1) := by decide +kernel
theorem dJ2_getChars_ba4f3_37 : decode cJ2_getChars_ba4f3 37 = .ok (.iload_n 0, 1) := by decide +kernel
theorem dJ2_getChars_ba4f3_38 : decode cJ2_getChars_ba4f3 38 = .ok (.isub, 1) := by decide +kernel
theorem dJ2_getChars_ba4f3_39 : decode cJ2_getChars_ba4f3 39 = .ok (.istore 4, 2) := by decide +kernel
theorem dJ2_getChars_ba4f3_41 : decode cJ2_getChars_ba4f3 41 = .ok (.iload_n 3, 1) := by decide +kernel
theorem dJ2_getChars_ba4f3_42 : decode cJ2_getChars_ba4f3 42 = .ok (.istore_n 0, 1) := by decide +kernel
theorem dJ2_getChars_ba4f3_43 : decode cJ2_getChars_ba4f3 43 = .ok (.aload_n 2, 1) := by decide +kernel
theorem dJ2_getChars_ba4f3_44 : decode cJ2_getChars_ba4f3 44 = .ok (.iinc 5 (-1), 3) := by decide +kernel
theorem dJ2_getChars_ba4f3_47 : decode cJ2_getChars_ba4f3 47 = .ok (.iload 5, 2) := by decide +kernel
theorem dJ2_getChars_ba4f3_49 : decode cJ2_getChars_ba4f3 49 = .ok (.getstatic 403, 3) := by decide +kernel
theorem dJ2_getChars_ba4f3_52 : decode cJ2_getChars_ba4f3 52 = .ok (.iload 4, 2) := by decide +kernel
theorem dJ2_getChars_ba4f3_54 : decode cJ2_getChars_ba4f3 54 = .ok (.baload, 1) := by decide +kernel
theorem dJ2_getChars_ba4f3_55 : decode cJ2_getChars_ba4f3 55 = .ok (.invokestatic 111, 3) := by decide +kernel
theorem dJ2_getChars_ba4f3_58 : decode cJ2_getChars_ba4f3 58 = .ok (.aload_n 2, 1) := by decide +kernel
theorem dJ2_getChars_ba4f3_59 : decode cJ2_getChars_ba4f3 59 = .ok (.iinc 5 (-1), 3) := by decide +kernel
theorem dJ2_getChars_ba4f3_62 : decode cJ2_getChars_ba4f3 62 = .ok (.iload 5, 2) := by decide +kernel
theorem dJ2_getChars_ba4f3_64 : decode cJ2_getChars_ba4f3 64 = .ok (.getstatic 407, 3) := by decide +kernel
theorem dJ2_getChars_ba4f3_67 : decode cJ2_getChars_ba4f3 67 = .ok (.iload 4, 2) := by decide +kernel
theorem dJ2_getChars_ba4f3_69 : decode cJ2_getChars_ba4f3 69 = .ok (.baload, 1) := by decide +kernel
theorem dJ2_getChars_ba4f3_70 : decode cJ2_getChars_ba4f3 70 = .ok (.invokestatic 111, 3) := by decide +kernel
theorem dJ2_getChars_ba4f3_73 : decode cJ2_getChars_ba4f3 73 = .ok (.goto (-51), 3) := by decide +kernel
theorem dJ2_getChars_ba4f3_76 : decode cJ2_getChars_ba4f3 76 = .ok (.aload_n 2, 1) := by decide +kernel
theorem dJ2_getChars_ba4f3_77 : decode cJ2_getChars_ba4f3 77 = .ok (.iinc 5 (-1), 3) := by decide +kernel
theorem dJ2_getChars_ba4f3_80 : decode cJ2_getChars_ba4f3 80 = .ok (.iload 5, 2) := by decide +kernel
theorem dJ2_getChars_ba4f3_82 : decode cJ2_getChars_ba4f3 82 = .ok (.getstatic 403, 3) := by decide +kernel
theorem dJ2_getChars_ba4f3_85 : decode cJ2_getChars_ba4f3 85 = .ok (.iload_n 0, 1) := by decide +kernel
theorem dJ2_getChars_ba4f3_86 : decode cJ2_getChars_ba4f3 86 = .ok (.ineg, 1) := by decide +kernel
theorem dJ2_getChars_ba4f3_87 : decode cJ2_getChars_ba4f3 87 = .ok (.baload, 1) := by decide +kernel
theorem dJ2_getChars_ba4f3_88 : decode cJ2_getChars_ba4f3 88 = .ok (.invokestatic 111, 3) := by decide +kernel
theorem dJ2_getChars_ba4f3_91 : decode cJ2_getChars_ba4f3 91 = .ok (.iload_n 0, 1) := by decide +kernel
theorem dJ2_getChars_ba4f3_92 : decode cJ2_getChars_ba4f3 92 = .ok (.bipush (-9), 2) := by decide +kernel
theorem dJ2_getChars_ba4f3_94 : decode cJ2_getChars_ba4f3 94 = .ok (.if_icmp .ge 18, 3) := by decide +kernel
theorem dJ2_getChars_ba4f3_97 : decode cJ2_getChars_ba4f3 97 = .ok (.aload_n 2, 1) := by decide +kernel
theorem dJ2_getChars_ba4f3_98 : decode cJ2_getChars_ba4f3 98 = .ok (.iinc 5 (-1), 3) := by decide +kernel
theorem dJ2_getChars_ba4f3_101 : decode cJ2_getChars_ba4f3 101 = .ok (.iload 5, 2) := by decide +kernel
theorem dJ2_getChars_ba4f3_103 : decode cJ2_getChars_ba4f3 103 = .ok (.getstatic 407, 3) := by decide +kernel
theorem dJ2_getChars_ba4f3_106 : decode cJ2_getChars_ba4f3 106 = .ok (.iload_n 0, 1) := by decide +kernel
theorem dJ2_getChars_ba4f3_107 : decode cJ2_getChars_ba4f3 107 = .ok (.ineg, 1) := by decide +kernel
theorem dJ2_getChars_ba4f3_108 : decode cJ2_getChars_ba4f3 108 = .ok (.baload, 1) := by decide +kernel
theorem dJ2_getChars_ba4f3_109 : decode cJ2_getChars_ba4f3 109 = .ok (.invokestatic 111, 3) := by decide +kernel
theorem dJ2_getChars_ba4f3_112 : decode cJ2_getChars_ba4f3 112 = .ok (.iload 6, 2) := by decide +kernel
theorem dJ2_getChars_ba4f3_114 : decode cJ2_getChars_ba4f3 114 = .ok (.ifCond .eq 14, 3) := by decide +kernel
theorem dJ2_getChars_ba4f3_117 : decode cJ2_getChars_ba4f3 117 = .ok (.aload_n 2, 1) := by decide +kernel
theorem dJ2_getChars_ba4f3_118 : decode cJ2_getChars_ba4f3 118 = .ok (.iinc 5 (-1), 3) := by decide +kernel
theorem dJ2_getChars_ba4f3_121 : decode cJ2_getChars_ba4f3 121 = .ok (.iload 5, 2) := by decide +kernel
theorem dJ2_getChars_ba4f3_123 : decode cJ2_getChars_ba4f3 123 = .ok (.bipush 45, 2) := by decide +kernel
theorem dJ2_getChars_ba4f3_125 : decode cJ2_getChars_ba4f3 125 = .ok (.invokestatic 111, 3) := by decide +kernel
theorem dJ2_getChars_ba4f3_128 : decode cJ2_getChars_ba4f3 128 = .ok (.iload 5, 2) := by decide +kernel
theorem dJ2_getChars_ba4f3_130 : decode cJ2_getChars_ba4f3 130 = .ok (.ireturn, 1) := by decide +kernel
theorem dJ2_checkIndex_2214a_0 : decode cJ2_checkIndex_2214a 0 = .ok (.iload_n 0, 1) := by decide +kernel
theorem dJ2_checkIndex_2214a_1 : decode cJ2_checkIndex_2214a 1 = .ok (.aload_n 1, 1) := by decide +kernel
theorem dJ2_checkIndex_2214a_2 : decode cJ2_checkIndex_2214a 2 = .ok (.invokestatic 48, 3) := by decide +kernel
theorem dJ2_checkIndex_2214a_5 : decode cJ2_checkIndex_2214a 5 = .ok (.invokestatic 414, 3) := by decide +kernel
theorem dJ2_checkIndex_2214a_8 : decode cJ2_checkIndex_2214a 8 = .ok (.return_, 1) := by decide +kernel
theorem dJ2_checkBoundsBeginEnd_d044e_0 : decode cJ2_checkBoundsBeginEnd_d044e 0 = .ok (.iload_n 0, 1) := by decide +kernel
theorem dJ2_checkBoundsBeginEnd_d044e_1 : decode cJ2_checkBoundsBeginEnd_d044e 1 = .ok (.iload_n 1, 1) := by decide +kernel
theorem dJ2_checkBoundsBeginEnd_d044e_2 : decode cJ2_checkBoundsBeginEnd_d044e 2 = .ok (.aload_n 2, 1) := by decide +kernel
theorem dJ2_checkBoundsBeginEnd_d044e_3 : decode cJ2_checkBoundsBeginEnd_d044e 3 = .ok (.invokestatic 48, 3) := by decide +kernel
theorem dJ2_checkBoundsBeginEnd_d044e_6 : decode cJ2_checkBoundsBeginEnd_d044e 6 = .ok (.invokestatic 241, 3) := by decide +kernel
theorem dJ2_checkBoundsBeginEnd_d044e_9 : decode cJ2_checkBoundsBeginEnd_d044e 9 = .ok (.return_, 1) := by decide +kernel
theorem dJ2_checkBoundsOffCount_d044e_0 : decode cJ2_checkBoundsOffCount_d044e 0 = .ok (.iload_n 0, 1) := by decide +kernel
theorem dJ2_checkBoundsOffCount_d044e_1 : decode cJ2_checkBoundsOffCount_d044e 1 = .ok (.iload_n 1, 1) := by decide +kernel
theorem dJ2_checkBoundsOffCount_d044e_2 : decode cJ2_checkBoundsOffCount_d044e 2 = .ok (.aload_n 2, 1) := by decide +kernel
theorem dJ2_checkBoundsOffCount_d044e_3 : decode cJ2_checkBoundsOffCount_d044e 3 = .ok (.invokestatic 48, 3) := by decide +kernel
theorem dJ2_checkBoundsOffCount_d044e_6 : decode cJ2_checkBoundsOffCount_d044e 6 = .ok (.invokestatic 419, 3) := by decide +kernel
theorem dJ2_checkBoundsOffCount_d044e_9 : decode cJ2_checkBoundsOffCount_d044e 9 = .ok (.pop, 1) := by decide +kernel
theorem dJ2_checkBoundsOffCount_d044e_10 : decode cJ2_checkBoundsOffCount_d044e 10 = .ok (.return_, 1) := by decide +kernel
theorem dJxa1e45_init_da8c8_0 : decode cJxa1e45_init_da8c8 0 = .ok (.aload_n 0, 1) := by decide +kernel
theorem dJxa1e45_init_da8c8_1 : decode cJxa1e45_init_da8c8 1 = .ok (.invokespecial 1, 3) := by decide +kernel
theorem dJxa1e45_init_da8c8_4 : decode cJxa1e45_init_da8c8 4 = .ok (.return_, 1) := by decide +kernel
theorem dJxc12de_init_da8c8_0 : decode cJxc12de_init_da8c8 0 = .ok (.aload_n 0, 1) := by decide +kernel
theorem dJxc12de_init_da8c8_1 : decode cJxc12de_init_da8c8 1 = .ok (.invokespecial 1, 3) := by decide +kernel
theorem dJxc12de_init_da8c8_4 : decode cJxc12de_init_da8c8 4 = .ok (.aload_n 0, 1) := by decide +kernel
theorem dJxc12de_init_da8c8_5 : decode cJxc12de_init_da8c8 5 = .ok (.iconst 0, 1) := by decide +kernel
theorem dJxc12de_init_da8c8_6 : decode cJxc12de_init_da8c8 6 = .ok (.putfield 7, 3) := by decide +kernel
theorem dJxc12de_init_da8c8_9 : decode cJxc12de_init_da8c8 9 = .ok (.return_, 1) := by decide +kernel
theorem dJx35411_init_45d68_0 : decode cJx35411_init_45d68 0 = .ok (.aload_n 0, 1) := by decide +kernel
theorem dJx35411_init_45d68_1 : decode cJx35411_init_45d68 1 = .ok (.aload_n 1, 1) := by decide +kernel
theorem dJx35411_init_45d68_2 : decode cJx35411_init_45d68 2 = .ok (.putfield 1, 3) := by decide +kernel
theorem dJx35411_init_45d68_5 : decode cJx35411_init_45d68 5 = .ok (.aload_n 0, 1) := by decide +kernel
theorem dJx35411_init_45d68_6 : decode cJx35411_init_45d68 6 = .ok (.invokespecial 7, 3) := by decide +kernel
theorem dJx35411_init_45d68_9 : decode cJx35411_init_45d68 9 = .ok (.aload_n 0, 1) := by decide +kernel
theorem dJx35411_init_45d68_10 : decode cJx35411_init_45d68 10 = .ok (.iconst (-1), 1) := by decide +kernel
theorem dJx35411_init_45d68_11 : decode cJx35411_init_45d68 11 = .ok (.putfield 13, 3) := by decide +kernel
theorem dJx35411_init_45d68_14 : decode cJx35411_init_45d68 14 = .ok (.aload_n 0, 1) := by decide +kernel
theorem dJx35411_init_45d68_15 : decode cJx35411_init_45d68 15 = .ok (.aload_n 0, 1) := by decide +kernel
theorem dJx35411_init_45d68_16 : decode cJx35411_init_45d68 16 = .ok (.getfield 1, 3) := by decide +kernel
theorem dJx35411_init_45d68_19 : decode cJx35411_init_45d68 19 = .ok (.getfield 17, 3) := by decide +kernel
theorem dJx35411_init_45d68_22 : decode cJx35411_init_45d68 22 = .ok (.putfield 22, 3) := by decide +kernel
theorem dJx35411_init_45d68_25 : decode cJx35411_init_45d68 25 = .ok (.return_, 1) := by decide +kernel
theorem dJx35411_hasNext_aae02_0 : decode cJx35411_hasNext_aae02 0 = .ok (.aload_n 0, 1) := by decide +kernel
theorem dJx35411_hasNext_aae02_1 : decode cJx35411_hasNext_aae02 1 = .ok (.getfield 25, 3) := by decide +kernel
theorem dJx35411_hasNext_aae02_4 : decode cJx35411_hasNext_aae02 4 = .ok (.aload_n 0, 1) := by decide +kernel
theorem dJx35411_hasNext_aae02_5 : decode cJx35411_hasNext_aae02 5 = .ok (.getfield 1, 3) := by decide +kernel
theorem dJx35411_hasNext_aae02_8 : decode cJx35411_hasNext_aae02 8 = .ok (.getfield 28, 3) := by decide +kernel
theorem dJx35411_hasNext_aae02_11 : decode cJx35411_hasNext_aae02 11 = .ok (.if_icmp .eq 7, 3) := by decide +kernel
theorem dJx35411_hasNext_aae02_14 : decode cJx35411_hasNext_aae02 14 = .ok (.iconst 1, 1) := by decide +kernel
theorem dJx35411_hasNext_aae02_15 : decode cJx35411_hasNext_aae02 15 = .ok (.goto 4, 3) := by decide +kernel
theorem dJx35411_hasNext_aae02_18 : decode cJx35411_hasNext_aae02 18 = .ok (.iconst 0, 1) := by decide +kernel
theorem dJx35411_hasNext_aae02_19 : decode cJx35411_hasNext_aae02 19 = .ok (.ireturn, 1) := by decide +kernel
theorem dJx35411_next_0502b_0 : decode cJx35411_next_0502b 0 = .ok (.aload_n 0, 1) := by decide +kernel
theorem dJx35411_next_0502b_1 : decode cJx35411_next_0502b 1 = .ok (.invokevirtual 31, 3) := by decide +kernel
theorem dJx35411_next_0502b_4 : decode cJx35411_next_0502b 4 = .ok (.aload_n 0, 1) := by decide +kernel
theorem dJx35411_next_0502b_5 : decode cJx35411_next_0502b 5 = .ok (.getfield 25, 3) := by decide +kernel
theorem dJx35411_next_0502b_8 : decode cJx35411_next_0502b 8 = .ok (.istore_n 1, 1) := by decide +kernel
theorem dJx35411_next_0502b_9 : decode cJx35411_next_0502b 9 = .ok (.iload_n 1, 1) := by decide +kernel
theorem dJx35411_next_0502b_10 : decode cJx35411_next_0502b 10 = .ok (.aload_n 0, 1) := by decide +kernel
theorem dJx35411_next_0502b_11 : decode cJx35411_next_0502b 11 = .ok (.getfield 1, 3) := by decide +kernel
theorem dJx35411_next_0502b_14 : decode cJx35411_next_0502b 14 = .ok (.getfield 28, 3) := by decide +kernel
theorem dJx35411_next_0502b_17 : decode cJx35411_next_0502b 17 = .ok (.if_icmp .lt 11, 3) := by decide +kernel
theorem dJx35411_next_0502b_20 : decode cJx35411_next_0502b 20 = .ok (.new 34, 3) := by decide +kernel
theorem dJx35411_next_0502b_23 : decode cJx35411_next_0502b 23 = .ok (.dup, 1) := by decide +kernel
theorem dJx35411_next_0502b_24 : decode cJx35411_next_0502b 24 = .ok (.invokespecial 36, 3) := by decide +kernel
theorem dJx35411_next_0502b_27 : decode cJx35411_next_0502b 27 = .ok (.athrow, 1) := by decide +kernel
theorem dJx35411_next_0502b_28 : decode cJx35411_next_0502b 28 = .ok (.aload_n 0, 1) := by decide +kernel
theorem dJx35411_next_0502b_29 : decode cJx35411_next_0502b 29 = .ok (.getfield 1, 3) := by decide +kernel
theorem dJx35411_next_0502b_32 : decode cJx35411_next_0502b 32 = .ok (.getfield 37, 3) := by decide +kernel
theorem dJx35411_next_0502b_35 : decode cJx35411_next_0502b 35 = .ok (.astore_n 2, 1) := by decide +kernel
theorem dJx35411_next_0502b_36 : decode cJx35411_next_0502b 36 = .ok (.iload_n 1, 1) := by decide +kernel
theorem dJx35411_next_0502b_37 : decode cJx35411_next_0502b 37 = .ok (.aload_n 2, 1) := by decide +kernel
theorem dJx35411_next_0502b_38 : decode cJx35411_next_0502b 38 = .ok (.arraylength, 1) := by decide +kernel
theorem dJx35411_next_0502b_39 : decode cJx35411_next_0502b 39 = .ok (.if_icmp .lt 11, 3) := by decide +kernel
theorem dJx35411_next_0502b_42 : decode cJx35411_next_0502b 42 = .ok (.new 41, 3) := by decide +kernel
theorem dJx35411_next_0502b_45 : decode cJx35411_next_0502b 45 = .ok (.dup, 1) := by decide +kernel
theorem dJx35411_next_0502b_46 : decode cJx35411_next_0502b 46 = .ok (.invokespecial 43, 3) := by decide +kernel
theorem dJx35411_next_0502b_49 : decode cJx35411_next_0502b 49 = .ok (.athrow, 1) := by decide +kernel
theorem dJx35411_next_0502b_50 : decode cJx35411_next_0502b 50 = .ok (.aload_n 0, 1) := by decide +kernel
theorem dJx35411_next_0502b_51 : decode cJx35411_next_0502b 51 = .ok (.iload_n 1, 1) := by decide +kernel
theorem dJx35411_next_0502b_52 : decode cJx35411_next_0502b 52 = .ok (.iconst 1, 1) := by decide +kernel
theorem dJx35411_next_0502b_53 : decode cJx35411_next_0502b 53 = .ok (.iadd, 1) := by decide +kernel
theorem dJx35411_next_0502b_54 : decode cJx35411_next_0502b 54 = .ok (.putfield 25, 3) := by decide +kernel
theorem dJx35411_next_0502b_57 : decode cJx35411_next_0502b 57 = .ok (.aload_n 2, 1) := by decide +kernel
theorem dJx35411_next_0502b_58 : decode cJx35411_next_0502b 58 = .ok (.aload_n 0, 1) := by decide +kernel
theorem dJx35411_next_0502b_59 : decode cJx35411_next_0502b 59 = .ok (.iload_n 1, 1) := by decide +kernel
theorem dJx35411_next_0502b_60 : decode cJx35411_next_0502b 60 = .ok (.dup_x1, 1) := by decide +kernel
theorem dJx35411_next_0502b_61 : decode cJx35411_next_0502b 61 = .ok (.putfield 13, 3) := by decide +kernel
theorem dJx35411_next_0502b_64 : decode cJx35411_next_0502b 64 = .ok (.aaload, 1) := by decide +kernel
theorem dJx35411_next_0502b_65 : decode cJx35411_next_0502b 65 = .ok (.areturn, 1) := by decide +kernel
theorem dJx35411_checkForComodification_da8c8_0 : decode cJx35411_checkForComodification_da8c8 0 = .ok (.aload_n 0, 1) := by decide +kernel
theorem dJx35411_checkForComodification_da8c8_1 : decode cJx35411_checkForComodification_da8c8 1 = .ok (.getfield 1, 3) := by decide +kernel
theorem dJx35411_checkForComodification_da8c8_4 : decode cJx35411_checkForComodification_da8c8 4 = .ok (.getfield 17, 3) := by decide +kernel
theorem dJx35411_checkForComodification_da8c8_7 : decode cJx35411_checkForComodification_da8c8 7 = .ok (.aload_n 0, 1) := by decide +kernel
theorem dJx35411_checkForComodification_da8c8_8 : decode cJx35411_checkForComodification_da8c8 8 = .ok (.getfield 22, 3) := by decide +kernel
theorem dJx35411_checkForComodification_da8c8_11 : decode cJx35411_checkForComodification_da8c8 11 = .ok (.if_icmp .eq 11, 3) := by decide +kernel
theorem dJx35411_checkForComodification_da8c8_14 : decode cJx35411_checkForComodification_da8c8 14 = .ok (.new 41, 3) := by decide +kernel
theorem dJx35411_checkForComodification_da8c8_17 : decode cJx35411_checkForComodification_da8c8 17 = .ok (.dup, 1) := by decide +kernel
theorem dJx35411_checkForComodification_da8c8_18 : decode cJx35411_checkForComodification_da8c8 18 = .ok (.invokespecial 43, 3) := by decide +kernel
theorem dJx35411_checkForComodification_da8c8_21 : decode cJx35411_checkForComodification_da8c8 21 = .ok (.athrow, 1) := by decide +kernel
theorem dJx35411_checkForComodification_da8c8_22 : decode cJx35411_checkForComodification_da8c8 22 = .ok (.return_, 1) := by decide +kernel
theorem dJx4a65c_init_da8c8_0 : decode cJx4a65c_init_da8c8 0 = .ok (.aload_n 0, 1) := by decide +kernel
theorem dJx4a65c_init_da8c8_1 : decode cJx4a65c_init_da8c8 1 = .ok (.invokespecial 1, 3) := by decide +kernel
theorem dJx4a65c_init_da8c8_4 : decode cJx4a65c_init_da8c8 4 = .ok (.aload_n 0, 1) := by decide +kernel
theorem dJx4a65c_init_da8c8_5 : decode cJx4a65c_init_da8c8 5 = .ok (.getstatic 39, 3) := by decide +kernel
theorem dJx4a65c_init_da8c8_8 : decode cJx4a65c_init_da8c8 8 = .ok (.putfield 9, 3) := by decide +kernel
theorem dJx4a65c_init_da8c8_11 : decode cJx4a65c_init_da8c8 11 = .ok (.return_, 1) := by decide +kernel
theorem dJx4a65c_grow_92f84_0 : decode cJx4a65c_grow_92f84 0 = .ok (.aload_n 0, 1) := by decide +kernel
theorem dJx4a65c_grow_92f84_1 : decode cJx4a65c_grow_92f84 1 = .ok (.getfield 9, 3) := by decide +kernel
theorem dJx4a65c_grow_92f84_4 : decode cJx4a65c_grow_92f84 4 = .ok (.arraylength, 1) := by decide +kernel
theorem dJx4a65c_grow_92f84_5 : decode cJx4a65c_grow_92f84 5 = .ok (.istore_n 2, 1) := by decide +kernel
theorem dJx4a65c_grow_92f84_6 : decode cJx4a65c_grow_92f84 6 = .ok (.iload_n 2, 1) := by decide +kernel
theorem dJx4a65c_grow_92f84_7 : decode cJx4a65c_grow_92f84 7 = .ok (.ifCond .gt 13, 3) := by decide +kernel
theorem dJx4a65c_grow_92f84_10 : decode cJx4a65c_grow_92f84 10 = .ok (.aload_n 0, 1) := by decide +kernel
theorem dJx4a65c_grow_92f84_11 : decode cJx4a65c_grow_92f84 11 = .ok (.getfield 9, 3) := by decide +kernel
theorem dJx4a65c_grow_92f84_14 : decode cJx4a65c_grow_92f84 14 = .ok (.getstatic 39, 3) := by decide +kernel
theorem dJx4a65c_grow_92f84_17 : decode cJx4a65c_grow_92f84 17 = .ok (.if_acmp .eq 28, 3) := by decide +kernel
theorem dJx4a65c_grow_92f84_20 : decode cJx4a65c_grow_92f84 20 = .ok (.iload_n 2, 1) := by decide +kernel
theorem dJx4a65c_grow_92f84_21 : decode cJx4a65c_grow_92f84 21 = .ok (.iload_n 1, 1) := by decide +kernel
theorem dJx4a65c_grow_92f84_22 : decode cJx4a65c_grow_92f84 22 = .ok (.iload_n 2, 1) := by decide +kernel
theorem dJx4a65c_grow_92f84_23 : decode cJx4a65c_grow_92f84 23 = .ok (.isub, 1) := by decide +kernel
theorem dJx4a65c_grow_92f84_24 : decode cJx4a65c_grow_92f84 24 = .ok (.iload_n 2, 1) := by decide +kernel
theorem dJx4a65c_grow_92f84_25 : decode cJx4a65c_grow_92f84 25 = .ok (.iconst 1, 1) := by decide +kernel
theorem dJx4a65c_grow_92f84_26 : decode cJx4a65c_grow_92f84 26 = .ok (.ishr, 1) := by decide +kernel
theorem dJx4a65c_grow_92f84_27 : decode cJx4a65c_grow_92f84 27 = .ok (.invokestatic 73, 3) := by decide +kernel
theorem dJx4a65c_grow_92f84_30 : decode cJx4a65c_grow_92f84 30 = .ok (.istore_n 3, 1) := by decide +kernel
theorem dJx4a65c_grow_92f84_31 : decode cJx4a65c_grow_92f84 31 = .ok (.aload_n 0, 1) := by decide +kernel
theorem dJx4a65c_grow_92f84_32 : decode cJx4a65c_grow_92f84 32 = .ok (.aload_n 0, 1) := by decide +kernel
theorem dJx4a65c_grow_92f84_33 : decode cJx4a65c_grow_92f84 33 = .ok (.getfield 9, 3) := by decide +kernel
theorem dJx4a65c_grow_92f84_36 : decode cJx4a65c_grow_92f84 36 = .ok (.iload_n 3, 1) := by decide +kernel
theorem dJx4a65c_grow_92f84_37 : decode cJx4a65c_grow_92f84 37 = .ok (.invokestatic 66, 3) := by decide +kernel
theorem dJx4a65c_grow_92f84_40 : decode cJx4a65c_grow_92f84 40 = .ok (.dup_x1, 1) := by decide +kernel
theorem dJx4a65c_grow_92f84_41 : decode cJx4a65c_grow_92f84 41 = .ok (.putfield 9, 3) := by decide +kernel
theorem dJx4a65c_grow_92f84_44 : decode cJx4a65c_grow_92f84 44 = .ok (.areturn, 1) := by decide +kernel
theorem dJx4a65c_grow_92f84_45 : decode cJx4a65c_grow_92f84 45 = .ok (.aload_n 0, 1) := by decide +kernel
theorem dJx4a65c_grow_92f84_46 : decode cJx4a65c_grow_92f84 46 = .ok (.bipush 10, 2) := by decide +kernel
theorem dJx4a65c_grow_92f84_48 : decode cJx4a65c_grow_92f84 48 = .ok (.iload_n 1, 1) := by decide +kernel
theorem dJx4a65c_grow_92f84_49 : decode cJx4a65c_grow_92f84 49 = .ok (.invokestatic 79, 3) := by decide +kernel
theorem dJx4a65c_grow_92f84_52 : decode cJx4a65c_grow_92f84 52 = .ok (.anewarray 7, 3) := by decide +kernel
theorem dJx4a65c_grow_92f84_55 : decode cJx4a65c_grow_92f84 55 = .ok (.dup_x1, 1) := by decide +kernel
theorem dJx4a65c_grow_92f84_56 : decode cJx4a65c_grow_92f84 56 = .ok (.putfield 9, 3) := by decide +kernel
theorem dJx4a65c_grow_92f84_59 : decode cJx4a65c_grow_92f84 59 = .ok (.areturn, 1) := by decide +kernel
theorem dJx4a65c_grow_d5877_0 : decode cJx4a65c_grow_d5877 0 = .ok (.aload_n 0, 1) := by decide +kernel
theorem dJx4a65c_grow_d5877_1 : decode cJx4a65c_grow_d5877 1 = .ok (.aload_n 0, 1) := by decide +kernel
theorem dJx4a65c_grow_d5877_2 : decode cJx4a65c_grow_d5877 2 = .ok (.getfield 48, 3) := by decide +kernel
theorem dJx4a65c_grow_d5877_5 : decode cJx4a65c_grow_d5877 5 = .ok (.iconst 1, 1) := by decide +kernel
theorem dJx4a65c_grow_d5877_6 : decode cJx4a65c_grow_d5877 6 = .ok (.iadd, 1) := by decide +kernel
theorem dJx4a65c_grow_d5877_7 : decode cJx4a65c_grow_d5877 7 = .ok (.invokevirtual 69, 3) := by decide +kernel
theorem dJx4a65c_grow_d5877_10 : decode cJx4a65c_grow_d5877 10 = .ok (.areturn, 1) := by decide +kernel
theorem dJx4a65c_size_8abf5_0 : decode cJx4a65c_size_8abf5 0 = .ok (.aload_n 0, 1) := by decide +kernel
theorem dJx4a65c_size_8abf5_1 : decode cJx4a65c_size_8abf5 1 = .ok (.getfield 48, 3) := by decide +kernel
theorem dJx4a65c_size_8abf5_4 : decode cJx4a65c_size_8abf5 4 = .ok (.ireturn, 1) := by decide +kernel
theorem dJx4a65c_elementData_915e3_0 : decode cJx4a65c_elementData_915e3 0 = .ok (.aload_n 0, 1) := by decide +kernel
theorem dJx4a65c_elementData_915e3_1 : decode cJx4a65c_elementData_915e3 1 = .ok (.getfield 9, 3) := by decide +kernel
theorem dJx4a65c_elementData_915e3_4 : decode cJx4a65c_elementData_915e3 4 = .ok (.iload_n 1, 1) := by decide +kernel
theorem dJx4a65c_elementData_915e3_5 : decode cJx4a65c_elementData_915e3 5 = .ok (.aaload, 1) := by decide +kernel
theorem dJx4a65c_elementData_915e3_6 : decode cJx4a65c_elementData_915e3 6 = .ok (.areturn, 1) := by decide +kernel
theorem dJx4a65c_get_915e3_0 : decode cJx4a65c_get_915e3 0 = .ok (.iload_n 1, 1) := by decide +kernel
theorem dJx4a65c_get_915e3_1 : decode cJx4a65c_get_915e3 1 = .ok (.aload_n 0, 1) := by decide +kernel
theorem dJx4a65c_get_915e3_2 : decode cJx4a65c_get_915e3 2 = .ok (.getfield 48, 3) := by decide +kernel
theorem dJx4a65c_get_915e3_5 : decode cJx4a65c_get_915e3 5 = .ok (.invokestatic 118, 3) := by decide +kernel
theorem dJx4a65c_get_915e3_8 : decode cJx4a65c_get_915e3 8 = .ok (.pop, 1) := by decide +kernel
theorem dJx4a65c_get_915e3_9 : decode cJx4a65c_get_915e3 9 = .ok (.aload_n 0, 1) := by decide +kernel
theorem dJx4a65c_get_915e3_10 : decode cJx4a65c_get_915e3 10 = .ok (.iload_n 1, 1) := by decide +kernel
theorem dJx4a65c_get_915e3_11 : decode cJx4a65c_get_915e3 11 = .ok (.invokevirtual 123, 3) := by decide +kernel
theorem dJx4a65c_get_915e3_14 : decode cJx4a65c_get_915e3 14 = .ok (.areturn, 1) := by decide +kernel
theorem dJx4a65c_add_72be8_0 : decode cJx4a65c_add_72be8 0 = .ok (.iload_n 3, 1) := by decide +kernel
theorem dJx4a65c_add_72be8_1 : decode cJx4a65c_add_72be8 1 = .ok (.aload_n 2, 1) := by decide +kernel
theorem dJx4a65c_add_72be8_2 : decode cJx4a65c_add_72be8 2 = .ok (.arraylength, 1) := by decide +kernel
theorem dJx4a65c_add_72be8_3 : decode cJx4a65c_add_72be8 3 = .ok (.if_icmp .ne 8, 3) := by decide +kernel
theorem dJx4a65c_add_72be8_6 : decode cJx4a65c_add_72be8 6 = .ok (.aload_n 0, 1) := by decide +kernel
theorem dJx4a65c_add_72be8_7 : decode cJx4a65c_add_72be8 7 = .ok (.invokevirtual 129, 3) := by decide +kernel
theorem dJx4a65c_add_72be8_10 : decode cJx4a65c_add_72be8 10 = .ok (.astore_n 2, 1) := by decide +kernel
theorem dJx4a65c_add_72be8_11 : decode cJx4a65c_add_72be8 11 = .ok (.aload_n 2, 1) := by decide +kernel
theorem dJx4a65c_add_72be8_12 : decode cJx4a65c_add_72be8 12 = .ok (.iload_n 3, 1) := by decide +kernel
theorem dJx4a65c_add_72be8_13 : decode cJx4a65c_add_72be8 13 = .ok (.aload_n 1, 1) := by decide +kernel
theorem dJx4a65c_add_72be8_14 : decode cJx4a65c_add_72be8 14 = .ok (.aastore, 1) := by decide +kernel
theorem dJx4a65c_add_72be8_15 : decode cJx4a65c_add_72be8 15 = .ok (.aload_n 0, 1) := by decide +kernel
theorem dJx4a65c_add_72be8_16 : decode cJx4a65c_add_72be8 16 = .ok (.iload_n 3, 1) := by decide +kernel
theorem dJx4a65c_add_72be8_17 : decode cJx4a65c_add_72be8 17 = .ok (.iconst 1, 1) := by decide +kernel
theorem dJx4a65c_add_72be8_18 : decode cJx4a65c_add_72be8 18 = .ok (.iadd, 1) := by decide +kernel
theorem dJx4a65c_add_72be8_19 : decode cJx4a65c_add_72be8 19 = .ok (.putfield 48, 3) := by decide +kernel
theorem dJx4a65c_add_72be8_22 : decode cJx4a65c_add_72be8 22 = .ok (.return_, 1) := by decide +kernel
theorem dJx4a65c_add_9ea2d_0 : decode cJx4a65c_add_9ea2d 0 = .ok (.aload_n 0, 1) := by decide +kernel
theorem dJx4a65c_add_9ea2d_1 : decode cJx4a65c_add_9ea2d 1 = .ok (.dup, 1) := by decide +kernel
theorem dJx4a65c_add_9ea2d_2 : decode cJx4a65c_add_9ea2d 2 = .ok (.getfield 63, 3) := by decide +kernel
theorem dJx4a65c_add_9ea2d_5 : decode cJx4a65c_add_9ea2d 5 = .ok (.iconst 1, 1) := by decide +kernel
theorem dJx4a65c_add_9ea2d_6 : decode cJx4a65c_add_9ea2d 6 = .ok (.iadd, 1) := by decide +kernel
theorem dJx4a65c_add_9ea2d_7 : decode cJx4a65c_add_9ea2d 7 = .ok (.putfield 63, 3) := by decide +kernel
theorem dJx4a65c_add_9ea2d_10 : decode cJx4a65c_add_9ea2d 10 = .ok (.aload_n 0, 1) := by decide +kernel
theorem dJx4a65c_add_9ea2d_11 : decode cJx4a65c_add_9ea2d 11 = .ok (.aload_n 1, 1) := by decide +kernel
theorem dJx4a65c_add_9ea2d_12 : decode cJx4a65c_add_9ea2d 12 = .ok (.aload_n 0, 1) := by decide +kernel
theorem dJx4a65c_add_9ea2d_13 : decode cJx4a65c_add_9ea2d 13 = .ok (.getfield 9, 3) := by decide +kernel
theorem dJx4a65c_add_9ea2d_16 : decode cJx4a65c_add_9ea2d 16 = .ok (.aload_n 0, 1) := by decide +kernel
theorem dJx4a65c_add_9ea2d_17 : decode cJx4a65c_add_9ea2d 17 = .ok (.getfield 48, 3) := by decide +kernel
theorem dJx4a65c_add_9ea2d_20 : decode cJx4a65c_add_9ea2d 20 = .ok (.invokevirtual 131, 3) := by decide +kernel
theorem dJx4a65c_add_9ea2d_23 : decode cJx4a65c_add_9ea2d 23 = .ok (.iconst 1, 1) := by decide +kernel
theorem dJx4a65c_add_9ea2d_24 : decode cJx4a65c_add_9ea2d 24 = .ok (.ireturn, 1) := by decide +kernel
theorem dJx4a65c_iterator_32c93_0 : decode cJx4a65c_iterator_32c93 0 = .ok (.new 267, 3) := by decide +kernel
theorem dJx4a65c_iterator_32c93_3 : decode cJx4a65c_iterator_32c93 3 = .ok (.dup, 1) := by decide +kernel
theorem dJx4a65c_iterator_32c93_4 : decode cJx4a65c_iterator_32c93 4 = .ok (.aload_n 0, 1) := by decide +kernel
theorem dJx4a65c_iterator_32c93_5 : decode cJx4a65c_iterator_32c93 5 = .ok (.invokespecial 269, 3) := by decide +kernel
theorem dJx4a65c_iterator_32c93_8 : decode cJx4a65c_iterator_32c93 8 = .ok (.areturn, 1) := by decide +kernel
theorem dJ7_copyOf_1904c_0 : decode cJ7_copyOf_1904c 0 = .ok (.aload_n 0, 1) := by decide +kernel
theorem dJ7_copyOf_1904c_1 : decode cJ7_copyOf_1904c 1 = .ok (.iload_n 1, 1) := by decide +kernel
theorem dJ7_copyOf_1904c_2 : decode cJ7_copyOf_1904c 2 = .ok (.aload_n 0, 1) := by decide +kernel
theorem dJ7_copyOf_1904c_3 : decode cJ7_copyOf_1904c 3 = .ok (.invokevirtual 86, 3) := by decide +kernel
theorem dJ7_copyOf_1904c_6 : decode cJ7_copyOf_1904c 6 = .ok (.invokestatic 300, 3) := by decide +kernel
theorem dJ7_copyOf_1904c_9 : decode cJ7_copyOf_1904c 9 = .ok (.areturn, 1) := by decide +kernel
theorem dJ7_copyOf_6403c_0 : decode cJ7_copyOf_6403c 0 = .ok (.aload_n 2, 1) := by decide +kernel
theorem dJ7_copyOf_6403c_1 : decode cJ7_copyOf_6403c 1 = .ok (.ldc 110, 2) := by decide +kernel
theorem dJ7_copyOf_6403c_3 : decode cJ7_copyOf_6403c 3 = .ok (.if_acmp .ne 10, 3) := by decide +kernel
theorem dJ7_copyOf_6403c_6 : decode cJ7_copyOf_6403c 6 = .ok (.iload_n 1, 1) := by decide +kernel
theorem dJ7_copyOf_6403c_7 : decode cJ7_copyOf_6403c 7 = .ok (.anewarray 2, 3) := by decide +kernel
theorem dJ7_copyOf_6403c_10 : decode cJ7_copyOf_6403c 10 = .ok (.goto 14, 3) := by decide +kernel
theorem dJ7_copyOf_6403c_13 : decode cJ7_copyOf_6403c 13 = .ok (.aload_n 2, 1) := by decide +kernel
theorem dJ7_copyOf_6403c_14 : decode cJ7_copyOf_6403c 14 = .ok (.invokevirtual 90, 3) := by decide +kernel
theorem dJ7_copyOf_6403c_17 : decode cJ7_copyOf_6403c 17 = .ok (.iload_n 1, 1) := by decide +kernel
theorem dJ7_copyOf_6403c_18 : decode cJ7_copyOf_6403c 18 = .ok (.invokestatic 95, 3) := by decide +kernel
theorem dJ7_copyOf_6403c_21 : decode cJ7_copyOf_6403c 21 = .ok (.checkcast 110, 3) := by decide +kernel
theorem dJ7_copyOf_6403c_24 : decode cJ7_copyOf_6403c 24 = .ok (.astore_n 3, 1) := by decide +kernel
theorem dJ7_copyOf_6403c_25 : decode cJ7_copyOf_6403c 25 = .ok (.aload_n 0, 1) := by decide +kernel
theorem dJ7_copyOf_6403c_26 : decode cJ7_copyOf_6403c 26 = .ok (.iconst 0, 1) := by decide +kernel
theorem dJ7_copyOf_6403c_27 : decode cJ7_copyOf_6403c 27 = .ok (.aload_n 3, 1) := by decide +kernel
theorem dJ7_copyOf_6403c_28 : decode cJ7_copyOf_6403c 28 = .ok (.iconst 0, 1) := by decide +kernel
theorem dJ7_copyOf_6403c_29 : decode cJ7_copyOf_6403c 29 = .ok (.aload_n 0, 1) := by decide +kernel
theorem dJ7_copyOf_6403c_30 : decode cJ7_copyOf_6403c 30 = .ok (.arraylength, 1) := by decide +kernel
theorem dJ7_copyOf_6403c_31 : decode cJ7_copyOf_6403c 31 = .ok (.iload_n 1, 1) := by decide +kernel
theorem dJ7_copyOf_6403c_32 : decode cJ7_copyOf_6403c 32 = .ok (.invokestatic 304, 3) := by decide +kernel
theorem dJ7_copyOf_6403c_35 : decode cJ7_copyOf_6403c 35 = .ok (.invokestatic 150, 3) := by decide +kernel
theorem dJ7_copyOf_6403c_38 : decode cJ7_copyOf_6403c 38 = .ok (.aload_n 3, 1) := by decide +kernel
theorem dJ7_copyOf_6403c_39 : decode cJ7_copyOf_6403c 39 = .ok (.areturn, 1) := by decide +kernel
theorem dJ7_copyOf_9075b_0 : decode cJ7_copyOf_9075b 0 = .ok (.iload_n 1, 1) := by decide +kernel
theorem dJ7_copyOf_9075b_1 : decode cJ7_copyOf_9075b 1 = .ok (.aload_n 0, 1) := by decide +kernel
theorem dJ7_copyOf_9075b_2 : decode cJ7_copyOf_9075b 2 = .ok (.arraylength, 1) := by decide +kernel
theorem dJ7_copyOf_9075b_3 : decode cJ7_copyOf_9075b 3 = .ok (.if_icmp .ne 11, 3) := by decide +kernel
theorem dJ7_copyOf_9075b_6 : decode cJ7_copyOf_9075b 6 = .ok (.aload_n 0, 1) := by decide +kernel
theorem dJ7_copyOf_9075b_7 : decode cJ7_copyOf_9075b 7 = .ok (.invokevirtual 310, 3) := by decide +kernel
theorem dJ7_copyOf_9075b_10 : decode cJ7_copyOf_9075b 10 = .ok (.checkcast 311, 3) := by decide +kernel
theorem dJ7_copyOf_9075b_13 : decode cJ7_copyOf_9075b 13 = .ok (.areturn, 1) := by decide +kernel
theorem dJ7_copyOf_9075b_14 : decode cJ7_copyOf_9075b 14 = .ok (.iload_n 1, 1) := by decide +kernel
theorem dJ7_copyOf_9075b_15 : decode cJ7_copyOf_9075b 15 = .ok (.newarray .byte, 2) := by decide +kernel
theorem dJ7_copyOf_9075b_17 : decode cJ7_copyOf_9075b 17 = .ok (.astore_n 2, 1) := by decide +kernel
theorem dJ7_copyOf_9075b_18 : decode cJ7_copyOf_9075b 18 = .ok (.aload_n 0, 1) := by decide +kernel
theorem dJ7_copyOf_9075b_19 : decode cJ7_copyOf_9075b 19 = .ok (.iconst 0, 1) := by decide +kernel
theorem dJ7_copyOf_9075b_20 : decode cJ7_copyOf_9075b 20 = .ok (.aload_n 2, 1) := by decide +kernel
theorem dJ7_copyOf_9075b_21 : decode cJ7_copyOf_9075b 21 = .ok (.iconst 0, 1) := by decide +kernel
theorem dJ7_copyOf_9075b_22 : decode cJ7_copyOf_9075b 22 = .ok (.aload_n 0, 1) := by decide +kernel
theorem dJ7_copyOf_9075b_23 : decode cJ7_copyOf_9075b 23 = .ok (.arraylength, 1) := by decide +kernel
theorem dJ7_copyOf_9075b_24 : decode cJ7_copyOf_9075b 24 = .ok (.iload_n 1, 1) := by decide +kernel
theorem dJ7_copyOf_9075b_25 : decode cJ7_copyOf_9075b 25 = .ok (.invokestatic 304, 3) := by decide +kernel
theorem dJ7_copyOf_9075b_28 : decode cJ7_copyOf_9075b 28 = .ok (.invokestatic 150, 3) := by decide +kernel
theorem dJ7_copyOf_9075b_31 : decode cJ7_copyOf_9075b 31 = .ok (.aload_n 2, 1) := by decide +kernel
theorem dJ7_copyOf_9075b_32 : decode cJ7_copyOf_9075b 32 = .ok (.areturn, 1) := by decide +kernel
theorem dJ7_checkLength_df160_0 : decode cJ7_checkLength_df160 0 = .ok (.iload_n 1, 1) := by decide +kernel
theorem dJ7_checkLength_df160_1 : decode cJ7_checkLength_df160 1 = .ok (.iload_n 0, 1) := by decide +kernel
theorem dJ7_checkLength_df160_2 : decode cJ7_checkLength_df160 2 = .ok (.if_icmp .ge 35, 3) := by decide +kernel
theorem dJ7_checkLength_df160_5 : decode cJ7_checkLength_df160 5 = .ok (.new 43, 3) := by decide +kernel
theorem dJ7_checkLength_df160_8 : decode cJ7_checkLength_df160 8 = .ok (.dup, 1) := by decide +kernel
theorem dJ7_checkLength_df160_9 : decode cJ7_checkLength_df160 9 = .ok (.new 45, 3) := by decide +kernel
theorem dJ7_checkLength_df160_12 : decode cJ7_checkLength_df160 12 = .ok (.dup, 1) := by decide +kernel
theorem dJ7_checkLength_df160_13 : decode cJ7_checkLength_df160 13 = .ok (.invokespecial 47, 3) := by decide +kernel
theorem dJ7_checkLength_df160_16 : decode cJ7_checkLength_df160 16 = .ok (.iload_n 0, 1) := by decide +kernel
theorem dJ7_checkLength_df160_17 : decode cJ7_checkLength_df160 17 = .ok (.invokevirtual 54, 3) := by decide +kernel
theorem dJ7_checkLength_df160_20 : decode cJ7_checkLength_df160 20 = .ok (.ldc_w 337, 3) := by decide +kernel
theorem dJ7_checkLength_df160_23 : decode cJ7_checkLength_df160 23 = .ok (.invokevirtual 50, 3) := by decide +kernel
theorem dJ7_checkLength_df160_26 : decode cJ7_checkLength_df160 26 = .ok (.iload_n 1, 1) := by decide +kernel
theorem dJ7_checkLength_df160_27 : decode cJ7_checkLength_df160 27 = .ok (.invokevirtual 54, 3) := by decide +kernel
theorem dJ7_checkLength_df160_30 : decode cJ7_checkLength_df160 30 = .ok (.invokevirtual 61, 3) := by decide +kernel
theorem dJ7_checkLength_df160_33 : decode cJ7_checkLength_df160 33 = .ok (.invokespecial 65, 3) := by decide +kernel
theorem dJ7_checkLength_df160_36 : decode cJ7_checkLength_df160 36 = .ok (.athrow, 1) := by decide +kernel
theorem dJ7_checkLength_df160_37 : decode cJ7_checkLength_df160 37 = .ok (.return_, 1) := by decide +kernel
theorem dJ7_copyOfRange_39247_0 : decode cJ7_copyOfRange_39247 0 = .ok (.iload_n 1, 1) := by decide +kernel
theorem dJ7_copyOfRange_39247_1 : decode cJ7_copyOfRange_39247 1 = .ok (.ifCond .ne 9, 3) := by decide +kernel
theorem dJ7_copyOfRange_39247_4 : decode cJ7_copyOfRange_39247 4 = .ok (.iload_n 2, 1) := by decide +kernel
theorem dJ7_copyOfRange_39247_5 : decode cJ7_copyOfRange_39247 5 = .ok (.aload_n 0, 1) := by decide +kernel
theorem dJ7_copyOfRange_39247_6 : decode cJ7_copyOfRange_39247 6 = .ok (.arraylength, 1) := by decide +kernel
theorem dJ7_copyOfRange_39247_7 : decode cJ7_copyOfRange_39247 7 = .ok (.if_icmp .eq 10, 3) := by decide +kernel
theorem dJ7_copyOfRange_39247_10 : decode cJ7_copyOfRange_39247 10 = .ok (.aload_n 0, 1) := by decide +kernel
theorem dJ7_copyOfRange_39247_11 : decode cJ7_copyOfRange_39247 11 = .ok (.iload_n 1, 1) := by decide +kernel
theorem dJ7_copyOfRange_39247_12 : decode cJ7_copyOfRange_39247 12 = .ok (.iload_n 2, 1) := by decide +kernel
theorem dJ7_copyOfRange_39247_13 : decode cJ7_copyOfRange_39247 13 = .ok (.invokestatic 339, 3) := by decide +kernel
theorem dJ7_copyOfRange_39247_16 : decode cJ7_copyOfRange_39247 16 = .ok (.areturn, 1) := by decide +kernel
theorem dJ7_copyOfRange_39247_17 : decode cJ7_copyOfRange_39247 17 = .ok (.aload_n 0, 1) := by decide +kernel
theorem dJ7_copyOfRange_39247_18 : decode cJ7_copyOfRange_39247 18 = .ok (.invokevirtual 310, 3) := by decide +kernel
theorem dJ7_copyOfRange_39247_21 : decode cJ7_copyOfRange_39247 21 = .ok (.checkcast 311, 3) := by decide +kernel
theorem dJ7_copyOfRange_39247_24 : decode cJ7_copyOfRange_39247 24 = .ok (.areturn, 1) := by decide +kernel
theorem dJ7_copyOfRangeByte_39247_0 : decode cJ7_copyOfRangeByte_39247 0 = .ok (.iload_n 1, 1) := by decide +kernel
theorem dJ7_copyOfRangeByte_39247_1 : decode cJ7_copyOfRangeByte_39247 1 = .ok (.iload_n 2, 1) := by decide +kernel
theorem dJ7_copyOfRangeByte_39247_2 : decode cJ7_copyOfRangeByte_39247 2 = .ok (.invokestatic 343, 3) := by decide +kernel
theorem dJ7_copyOfRangeByte_39247_5 : decode cJ7_copyOfRangeByte_39247 5 = .ok (.iload_n 2, 1) := by decide +kernel
theorem dJ7_copyOfRangeByte_39247_6 : decode cJ7_copyOfRangeByte_39247 6 = .ok (.iload_n 1, 1) := by decide +kernel
theorem dJ7_copyOfRangeByte_39247_7 : decode cJ7_copyOfRangeByte_39247 7 = .ok (.isub, 1) := by decide +kernel
theorem dJ7_copyOfRangeByte_39247_8 : decode cJ7_copyOfRangeByte_39247 8 = .ok (.istore_n 3, 1) := by decide +kernel
theorem dJ7_copyOfRangeByte_39247_9 : decode cJ7_copyOfRangeByte_39247 9 = .ok (.iload_n 3, 1) := by decide +kernel
theorem dJ7_copyOfRangeByte_39247_10 : decode cJ7_copyOfRangeByte_39247 10 = .ok (.newarray .byte, 2) := by decide +kernel
theorem dJ7_copyOfRangeByte_39247_12 : decode cJ7_copyOfRangeByte_39247 12 = .ok (.astore 4, 2) := by decide +kernel
theorem dJ7_copyOfRangeByte_39247_14 : decode cJ7_copyOfRangeByte_39247 14 = .ok (.aload_n 0, 1) := by decide +kernel
theorem dJ7_copyOfRangeByte_39247_15 : decode cJ7_copyOfRangeByte_39247 15 = .ok (.iload_n 1, 1) := by decide +kernel
theorem dJ7_copyOfRangeByte_39247_16 : decode cJ7_copyOfRangeByte_39247 16 = .ok (.aload 4, 2) := by decide +kernel
theorem dJ7_copyOfRangeByte_39247_18 : decode cJ7_copyOfRangeByte_39247 18 = .ok (.iconst 0, 1) := by decide +kernel
theorem dJ7_copyOfRangeByte_39247_19 : decode cJ7_copyOfRangeByte_39247 19 = .ok (.aload_n 0, 1) := by decide +kernel
theorem dJ7_copyOfRangeByte_39247_20 : decode cJ7_copyOfRangeByte_39247 20 = .ok (.arraylength, 1) := by decide +kernel
theorem dJ7_copyOfRangeByte_39247_21 : decode cJ7_copyOfRangeByte_39247 21 = .ok (.iload_n 1, 1) := by decide +kernel
theorem dJ7_copyOfRangeByte_39247_22 : decode cJ7_copyOfRangeByte_39247 22 = .ok (.isub, 1) := by decide +kernel
theorem dJ7_copyOfRangeByte_39247_23 : decode cJ7_copyOfRangeByte_39247 23 = .ok (.iload_n 3, 1) := by decide +kernel
theorem dJ7_copyOfRangeByte_39247_24 : decode cJ7_copyOfRangeByte_39247 24 = .ok (.invokestatic 304, 3) := by decide +kernel
theorem dJ7_copyOfRangeByte_39247_27 : decode cJ7_copyOfRangeByte_39247 27 = .ok (.invokestatic 150, 3) := by decide +kernel
theorem dJ7_copyOfRangeByte_39247_30 : decode cJ7_copyOfRangeByte_39247 30 = .ok (.aload 4, 2) := by decide +kernel
theorem dJ7_copyOfRangeByte_39247_32 : decode cJ7_copyOfRangeByte_39247 32 = .ok (.areturn, 1) := by decide +kernel
theorem dJ15_checkIndex_7cf53_0 : decode cJ15_checkIndex_7cf53 0 = .ok (.iload_n 0, 1) := by decide +kernel
theorem dJ15_checkIndex_7cf53_1 : decode cJ15_checkIndex_7cf53 1 = .ok (.iload_n 1, 1) := by decide +kernel
theorem dJ15_checkIndex_7cf53_2 : decode cJ15_checkIndex_7cf53 2 = .ok (.aconst_null, 1) := by decide +kernel
theorem dJ15_checkIndex_7cf53_3 : decode cJ15_checkIndex_7cf53 3 = .ok (.invokestatic 105, 3) := by decide +kernel
theorem dJ15_checkIndex_7cf53_6 : decode cJ15_checkIndex_7cf53 6 = .ok (.ireturn, 1) := by decide +kernel
theorem dJ8_newLength_cabcc_0 : decode cJ8_newLength_cabcc 0 = .ok (.iload_n 0, 1) := by decide +kernel
theorem dJ8_newLength_cabcc_1 : decode cJ8_newLength_cabcc 1 = .ok (.iload_n 1, 1) := by decide +kernel
theorem dJ8_newLength_cabcc_2 : decode cJ8_newLength_cabcc 2 = .ok (.iload_n 2, 1) := by decide +kernel
theorem dJ8_newLength_cabcc_3 : decode cJ8_newLength_cabcc 3 = .ok (.invokestatic 194, 3) := by decide +kernel
theorem dJ8_newLength_cabcc_6 : decode cJ8_newLength_cabcc 6 = .ok (.iadd, 1) := by decide +kernel
theorem dJ8_newLength_cabcc_7 : decode cJ8_newLength_cabcc 7 = .ok (.istore_n 3, 1) := by decide +kernel
theorem dJ8_newLength_cabcc_8 : decode cJ8_newLength_cabcc 8 = .ok (.iconst 0, 1) := by decide +kernel
theorem dJ8_newLength_cabcc_9 : decode cJ8_newLength_cabcc 9 = .ok (.iload_n 3, 1) := by decide +kernel
theorem dJ8_newLength_cabcc_10 : decode cJ8_newLength_cabcc 10 = .ok (.if_icmp .ge 11, 3) := by decide +kernel
theorem dJ8_newLength_cabcc_13 : decode cJ8_newLength_cabcc 13 = .ok (.iload_n 3, 1) := by decide +kernel
theorem dJ8_newLength_cabcc_14 : decode cJ8_newLength_cabcc 14 = .ok (.ldc 200, 2) := by decide +kernel
theorem dJ8_newLength_cabcc_16 : decode cJ8_newLength_cabcc 16 = .ok (.if_icmp .gt 5, 3) := by decide +kernel
theorem dJ8_newLength_cabcc_19 : decode cJ8_newLength_cabcc 19 = .ok (.iload_n 3, 1) := by decide +kernel
theorem dJ8_newLength_cabcc_20 : decode cJ8_newLength_cabcc 20 = .ok (.ireturn, 1) := by decide +kernel
theorem dJ8_newLength_cabcc_21 : decode cJ8_newLength_cabcc 21 = .ok (.iload_n 0, 1) := by decide +kernel
theorem dJ8_newLength_cabcc_22 : decode cJ8_newLength_cabcc 22 = .ok (.iload_n 1, 1) := by decide +kernel
theorem dJ8_newLength_cabcc_23 : decode cJ8_newLength_cabcc 23 = .ok (.invokestatic 201, 3) := by decide +kernel
theorem dJ8_newLength_cabcc_26 : decode cJ8_newLength_cabcc 26 = .ok (.ireturn, 1) := by decide +kernel
theorem dJ8_hugeLength_7cf53_0 : decode cJ8_hugeLength_7cf53 0 = .ok (.iload_n 0, 1) := by decide +kernel
theorem dJ8_hugeLength_7cf53_1 : decode cJ8_hugeLength_7cf53 1 = .ok (.iload_n 1, 1) := by decide +kernel
theorem dJ8_hugeLength_7cf53_2 : decode cJ8_hugeLength_7cf53 2 = .ok (.iadd, 1) := by decide +kernel
theorem dJ8_hugeLength_7cf53_3 : decode cJ8_hugeLength_7cf53 3 = .ok (.istore_n 2, 1) := by decide +kernel
theorem dJ8_hugeLength_7cf53_4 : decode cJ8_hugeLength_7cf53 4 = .ok (.iload_n 2, 1) := by decide +kernel
theorem dJ8_hugeLength_7cf53_5 : decode cJ8_hugeLength_7cf53 5 = .ok (.ifCond .ge 44, 3) := by decide +kernel
theorem dJ8_hugeLength_7cf53_8 : decode cJ8_hugeLength_7cf53 8 = .ok (.new 204, 3) := by decide +kernel
theorem dJ8_hugeLength_7cf53_11 : decode cJ8_hugeLength_7cf53 11 = .ok (.dup, 1) := by decide +kernel
theorem dJ8_hugeLength_7cf53_12 : decode cJ8_hugeLength_7cf53 12 = .ok (.new 89, 3) := by decide +kernel
theorem dJ8_hugeLength_7cf53_15 : decode cJ8_hugeLength_7cf53 15 = .ok (.dup, 1) := by decide +kernel
theorem dJ8_hugeLength_7cf53_16 : decode cJ8_hugeLength_7cf53 16 = .ok (.invokespecial 91, 3) := by decide +kernel
theorem dJ8_hugeLength_7cf53_19 : decode cJ8_hugeLength_7cf53 19 = .ok (.ldc 206, 2) := by decide +kernel
theorem dJ8_hugeLength_7cf53_21 : decode cJ8_hugeLength_7cf53 21 = .ok (.invokevirtual 94, 3) := by decide +kernel
theorem dJ8_hugeLength_7cf53_24 : decode cJ8_hugeLength_7cf53 24 = .ok (.iload_n 0, 1) := by decide +kernel
theorem dJ8_hugeLength_7cf53_25 : decode cJ8_hugeLength_7cf53 25 = .ok (.invokevirtual 98, 3) := by decide +kernel
theorem dJ8_hugeLength_7cf53_28 : decode cJ8_hugeLength_7cf53 28 = .ok (.ldc 208, 2) := by decide +kernel
theorem dJ8_hugeLength_7cf53_30 : decode cJ8_hugeLength_7cf53 30 = .ok (.invokevirtual 94, 3) := by decide +kernel
theorem dJ8_hugeLength_7cf53_33 : decode cJ8_hugeLength_7cf53 33 = .ok (.iload_n 1, 1) := by decide +kernel
theorem dJ8_hugeLength_7cf53_34 : decode cJ8_hugeLength_7cf53 34 = .ok (.invokevirtual 98, 3) := by decide +kernel
theorem dJ8_hugeLength_7cf53_37 : decode cJ8_hugeLength_7cf53 37 = .ok (.ldc 210, 2) := by decide +kernel
theorem dJ8_hugeLength_7cf53_39 : decode cJ8_hugeLength_7cf53 39 = .ok (.invokevirtual 94, 3) := by decide +kernel
theorem dJ8_hugeLength_7cf53_42 : decode cJ8_hugeLength_7cf53 42 = .ok (.invokevirtual 101, 3) := by decide +kernel
theorem dJ8_hugeLength_7cf53_45 : decode cJ8_hugeLength_7cf53 45 = .ok (.invokespecial 212, 3) := by decide +kernel
theorem dJ8_hugeLength_7cf53_48 : decode cJ8_hugeLength_7cf53 48 = .ok (.athrow, 1) := by decide +kernel
theorem dJ8_hugeLength_7cf53_49 : decode cJ8_hugeLength_7cf53 49 = .ok (.iload_n 2, 1) := by decide +kernel
theorem dJ8_hugeLength_7cf53_50 : decode cJ8_hugeLength_7cf53 50 = .ok (.ldc 200, 2) := by decide +kernel
theorem dJ8_hugeLength_7cf53_52 : decode cJ8_hugeLength_7cf53 52 = .ok (.if_icmp .gt 6, 3) := by decide +kernel
theorem dJ8_hugeLength_7cf53_55 : decode cJ8_hugeLength_7cf53 55 = .ok (.ldc 200, 2) := by decide +kernel
theorem dJ8_hugeLength_7cf53_57 : decode cJ8_hugeLength_7cf53 57 = .ok (.ireturn, 1) := by decide +kernel
theorem dJ8_hugeLength_7cf53_58 : decode cJ8_hugeLength_7cf53 58 = .ok (.iload_n 2, 1) := by decide +kernel
theorem dJ8_hugeLength_7cf53_59 : decode cJ8_hugeLength_7cf53 59 = .ok (.ireturn, 1) := by decide +kernel
theorem dJ3_checkIndex_8e157_0 : decode cJ3_checkIndex_8e157 0 = .ok (.iload_n 0, 1) := by decide +kernel
theorem dJ3_checkIndex_8e157_1 : decode cJ3_checkIndex_8e157 1 = .ok (.ifCond .lt 8, 3) := by decide +kernel
theorem dJ3_checkIndex_8e157_4 : decode cJ3_checkIndex_8e157 4 = .ok (.iload_n 0, 1) := by decide +kernel
theorem dJ3_checkIndex_8e157_5 : decode cJ3_checkIndex_8e157 5 = .ok (.iload_n 1, 1) := by decide +kernel
theorem dJ3_checkIndex_8e157_6 : decode cJ3_checkIndex_8e157 6 = .ok (.if_icmp .lt 10, 3) := by decide +kernel
theorem dJ3_checkIndex_8e157_9 : decode cJ3_checkIndex_8e157 9 = .ok (.aload_n 2, 1) := by decide +kernel
theorem dJ3_checkIndex_8e157_10 : decode cJ3_checkIndex_8e157 10 = .ok (.iload_n 0, 1) := by decide +kernel
theorem dJ3_checkIndex_8e157_11 : decode cJ3_checkIndex_8e157 11 = .ok (.iload_n 1, 1) := by decide +kernel
theorem dJ3_checkIndex_8e157_12 : decode cJ3_checkIndex_8e157 12 = .ok (.invokestatic 95, 3) := by decide +kernel
theorem dJ3_checkIndex_8e157_15 : decode cJ3_checkIndex_8e157 15 = .ok (.athrow, 1) := by decide +kernel
theorem dJ3_checkIndex_8e157_16 : decode cJ3_checkIndex_8e157 16 = .ok (.iload_n 0, 1) := by decide +kernel
theorem dJ3_checkIndex_8e157_17 : decode cJ3_checkIndex_8e157 17 = .ok (.ireturn, 1) := by decide +kernel
theorem dJ3_checkFromToIndex_8c36e_0 : decode cJ3_checkFromToIndex_8c36e 0 = .ok (.iload_n 0, 1) := by decide +kernel
theorem dJ3_checkFromToIndex_8c36e_1 : decode cJ3_checkFromToIndex_8c36e 1 = .ok (.ifCond .lt 13, 3) := by decide +kernel
theorem dJ3_checkFromToIndex_8c36e_4 : decode cJ3_checkFromToIndex_8c36e 4 = .ok (.iload_n 0, 1) := by decide +kernel
theorem dJ3_checkFromToIndex_8c36e_5 : decode cJ3_checkFromToIndex_8c36e 5 = .ok (.iload_n 1, 1) := by decide +kernel
theorem dJ3_checkFromToIndex_8c36e_6 : decode cJ3_checkFromToIndex_8c36e 6 = .ok (.if_icmp .gt 8, 3) := by decide +kernel
theorem dJ3_checkFromToIndex_8c36e_9 : decode cJ3_checkFromToIndex_8c36e 9 = .ok (.iload_n 1, 1) := by decide +kernel
theorem dJ3_checkFromToIndex_8c36e_10 : decode cJ3_checkFromToIndex_8c36e 10 = .ok (.iload_n 2, 1) := by decide +kernel
theorem dJ3_checkFromToIndex_8c36e_11 : decode cJ3_checkFromToIndex_8c36e 11 = .ok (.if_icmp .le 11, 3) := by decide +kernel
theorem dJ3_checkFromToIndex_8c36e_14 : decode cJ3_checkFromToIndex_8c36e 14 = .ok (.aload_n 3, 1) := by decide +kernel
theorem dJ3_checkFromToIndex_8c36e_15 : decode cJ3_checkFromToIndex_8c36e 15 = .ok (.iload_n 0, 1) := by decide +kernel
theorem dJ3_checkFromToIndex_8c36e_16 : decode cJ3_checkFromToIndex_8c36e 16 = .ok (.iload_n 1, 1) := by decide +kernel
theorem dJ3_checkFromToIndex_8c36e_17 : decode cJ3_checkFromToIndex_8c36e 17 = .ok (.iload_n 2, 1) := by decide +kernel
theorem dJ3_checkFromToIndex_8c36e_18 : decode cJ3_checkFromToIndex_8c36e 18 = .ok (.invokestatic 99, 3) := by decide +kernel
theorem dJ3_checkFromToIndex_8c36e_21 : decode cJ3_checkFromToIndex_8c36e 21 = .ok (.athrow, 1) := by decide +kernel
theorem dJ3_checkFromToIndex_8c36e_22 : decode cJ3_checkFromToIndex_8c36e 22 = .ok (.iload_n 0, 1) := by decide +kernel
theorem dJ3_checkFromToIndex_8c36e_23 : decode cJ3_checkFromToIndex_8c36e 23 = .ok (.ireturn, 1) := by decide +kernel
theorem dJ3_checkFromIndexSize_8c36e_0 : decode cJ3_checkFromIndexSize_8c36e 0 = .ok (.iload_n 2, 1) := by decide +kernel
theorem dJ3_checkFromIndexSize_8c36e_1 : decode cJ3_checkFromIndexSize_8c36e 1 = .ok (.iload_n 0, 1) := by decide +kernel
theorem dJ3_checkFromIndexSize_8c36e_2 : decode cJ3_checkFromIndexSize_8c36e 2 = .ok (.ior, 1) := by decide +kernel
theorem dJ3_checkFromIndexSize_8c36e_3 : decode cJ3_checkFromIndexSize_8c36e 3 = .ok (.iload_n 1, 1) := by decide +kernel
theorem dJ3_checkFromIndexSize_8c36e_4 : decode cJ3_checkFromIndexSize_8c36e 4 = .ok (.ior, 1) := by decide +kernel
theorem dJ3_checkFromIndexSize_8c36e_5 : decode cJ3_checkFromIndexSize_8c36e 5 = .ok (.ifCond .lt 10, 3) := by decide +kernel
theorem dJ3_checkFromIndexSize_8c36e_8 : decode cJ3_checkFromIndexSize_8c36e 8 = .ok (.iload_n 1, 1) := by decide +kernel
theorem dJ3_checkFromIndexSize_8c36e_9 : decode cJ3_checkFromIndexSize_8c36e 9 = .ok (.iload_n 2, 1) := by decide +kernel
theorem dJ3_checkFromIndexSize_8c36e_10 : decode cJ3_checkFromIndexSize_8c36e 10 = .ok (.iload_n 0, 1) := by decide +kernel
theorem dJ3_checkFromIndexSize_8c36e_11 : decode cJ3_checkFromIndexSize_8c36e 11 = .ok (.isub, 1) := by decide +kernel
theorem dJ3_checkFromIndexSize_8c36e_12 : decode cJ3_checkFromIndexSize_8c36e 12 = .ok (.if_icmp .le 11, 3) := by decide +kernel
theorem dJ3_checkFromIndexSize_8c36e_15 : decode cJ3_checkFromIndexSize_8c36e 15 = .ok (.aload_n 3, 1) := by decide +kernel
theorem dJ3_checkFromIndexSize_8c36e_16 : decode cJ3_checkFromIndexSize_8c36e 16 = .ok (.iload_n 0, 1) := by decide +kernel
theorem dJ3_checkFromIndexSize_8c36e_17 : decode cJ3_checkFromIndexSize_8c36e 17 = .ok (.iload_n 1, 1) := by decide +kernel
theorem dJ3_checkFromIndexSize_8c36e_18 : decode cJ3_checkFromIndexSize_8c36e 18 = .ok (.iload_n 2, 1) := by decide +kernel
theorem dJ3_checkFromIndexSize_8c36e_19 : decode cJ3_checkFromIndexSize_8c36e 19 = .ok (.invokestatic 103, 3) := by decide +kernel
theorem dJ3_checkFromIndexSize_8c36e_22 : decode cJ3_checkFromIndexSize_8c36e 22 = .ok (.athrow, 1) := by decide +kernel
theorem dJ3_checkFromIndexSize_8c36e_23 : decode cJ3_checkFromIndexSize_8c36e 23 = .ok (.iload_n 0, 1) := by decide +kernel
theorem dJ3_checkFromIndexSize_8c36e_24 : decode cJ3_checkFromIndexSize_8c36e 24 = .ok (.ireturn, 1) := by decide +kernel
end
section
/-! Machine numbers as whole numbers: Int32.ofInt, Int64.ofInt carry the arithmetic over. -/
abbrev i32 (x : Int) : Prop := -2147483648 ≤ x ∧ x ≤ 2147483647
abbrev i64 (x : Int) : Prop := -9223372036854775808 ≤ x ∧ x ≤ 9223372036854775807
theorem n32_toInt {x : Int} (h : i32 x) : (Int32.ofInt x).toInt = x := Int32.toInt_ofInt_of_le (by have := h.1; omega) (by have := h.2; omega)
theorem n64_toInt {x : Int} (h : i64 x) : (Int64.ofInt x).toInt = x := Int64.toInt_ofInt_of_le (by have := h.1; omega) (by have := h.2; omega)
theorem n32_of (z : Int32) : ∃ x : Int, i32 x ∧ z = Int32.ofInt x := ⟨z.toInt, ⟨by have := Int32.le_toInt z; omega, by have := Int32.toInt_lt z; omega⟩, (Int32.ofInt_toInt z).symm⟩
theorem n32_lt {x y : Int} (hx : i32 x) (hy : i32 y) : Int32.ofInt x < Int32.ofInt y ↔ x < y := by rw [Int32.lt_iff_toInt_lt, n32_toInt hx, n32_toInt hy]
theorem n32_le {x y : Int} (hx : i32 x) (hy : i32 y) : Int32.ofInt x ≤ Int32.ofInt y ↔ x ≤ y := by rw [Int32.le_iff_toInt_le, n32_toInt hx, n32_toInt hy]
theorem n32_eq {x y : Int} (hx : i32 x) (hy : i32 y) : Int32.ofInt x = Int32.ofInt y ↔ x = y := by rw [← Int32.toInt_inj, n32_toInt hx, n32_toInt hy]
theorem n64_lt {x y : Int} (hx : i64 x) (hy : i64 y) : Int64.ofInt x < Int64.ofInt y ↔ x < y := by rw [Int64.lt_iff_toInt_lt, n64_toInt hx, n64_toInt hy]
theorem n64_le {x y : Int} (hx : i64 x) (hy : i64 y) : Int64.ofInt x ≤ Int64.ofInt y ↔ x ≤ y := by rw [Int64.le_iff_toInt_le, n64_toInt hx, n64_toInt hy]
theorem n64_eq {x y : Int} (hx : i64 x) (hy : i64 y) : Int64.ofInt x = Int64.ofInt y ↔ x = y := by rw [← Int64.toInt_inj, n64_toInt hx, n64_toInt hy]
theorem n32_z : (0 : Int32) = Int32.ofInt 0 := by decide
theorem n64_z : (0 : Int64) = Int64.ofInt 0 := by decide
theorem i32_0 : i32 0 := by decide
theorem n32_cl {x : Int} (h : i32 x) : (Int32.ofInt x).toNatClampNeg = x.toNat := by
  show ((Int32.ofInt x).toInt).toNat = x.toNat
  rw [n32_toInt h]
theorem n32_in {x : Int} {n : Nat} (h : i32 x) (h0 : 0 ≤ x) (h1 : x < n) : ¬ (Int32.ofInt x < 0 ∨ n ≤ (Int32.ofInt x).toNatClampNeg) := by
  rw [n32_cl h, n32_z, n32_lt h i32_0]
  omega
theorem n32_M : Int32.maxValue.toInt = 2147483647 := by decide
theorem n64_M : Int64.maxValue.toInt = 9223372036854775807 := by decide
theorem n32_div {x y : Int} (hx : i32 x) (hy : i32 y) : Int32.ofInt x / Int32.ofInt y = Int32.ofInt (x.tdiv y) := (Int32.ofInt_tdiv (by simpa using hx.1) (by rw [n32_M]; exact hx.2) (by simpa using hy.1) (by rw [n32_M]; exact hy.2)).symm
theorem n64_div {x y : Int} (hx : i64 x) (hy : i64 y) : Int64.ofInt x / Int64.ofInt y = Int64.ofInt (x.tdiv y) := (Int64.ofInt_tdiv (by simpa using hx.1) (by rw [n64_M]; exact hx.2) (by simpa using hy.1) (by rw [n64_M]; exact hy.2)).symm
theorem n_tmod (x y : Int) : x - x.tdiv y * y = x.tmod y := by
  have h := Int.mul_tdiv_add_tmod x y
  rw [Int.mul_comm] at h
  omega
theorem n32_rem {x y : Int} (hx : i32 x) (hy : i32 y) : Int32.ofInt x - Int32.ofInt x / Int32.ofInt y * Int32.ofInt y = Int32.ofInt (x.tmod y) := by
  rw [n32_div hx hy, ← Int32.ofInt_mul, ← Int32.ofInt_sub, n_tmod]
theorem n64_rem {x y : Int} (hx : i64 x) (hy : i64 y) : Int64.ofInt x - Int64.ofInt x / Int64.ofInt y * Int64.ofInt y = Int64.ofInt (x.tmod y) := by
  rw [n64_div hx hy, ← Int64.ofInt_mul, ← Int64.ofInt_sub, n_tmod]
theorem n_i2l {x : Int} (h : i32 x) : (Int32.ofInt x).toInt64 = Int64.ofInt x := Int32.toInt64_ofInt (by simpa using h.1) (by rw [n32_M]; exact h.2)
theorem n_l2i (x : Int) : (Int64.ofInt x).toInt32 = Int32.ofInt x := Int64.toInt32_ofInt
theorem n_cmp {x y : Int} (hx : i64 x) (hy : i64 y) : lg_cmp (Int64.ofInt x) (Int64.ofInt y) = Int32.ofInt (if x < y then -1 else if x = y then 0 else 1) := by
  unfold lg_cmp
  have a := n64_lt hy hx
  have b := n64_eq hx hy
  by_cases h : y < x
  · rw [if_pos (a.mpr h), if_neg (by omega), if_neg (by omega)]
    rfl
  · rw [if_neg (fun q => h (a.mp q))]
    by_cases h3 : x = y
    · rw [if_pos (b.mpr h3), if_neg (by omega), if_pos h3]
      rfl
    · rw [if_neg (fun q => h3 (b.mp q)), if_pos (by omega)]
      rfl
theorem n_sh31 : ∀ n : Nat, n < 32 → (Int32.ofInt (n : Int) &&& 31) = Int32.ofInt (n : Int) ∧ ((Int32.ofInt (n : Int)).toBitVec.smod 32).toNat = n ∧ BitVec.twoPow 32 n = BitVec.ofInt 32 ((2 : Int) ^ n) := by decide +kernel
theorem n_sh63 : ∀ n : Nat, n < 64 → ((Int32.ofInt (n : Int)).toInt64 &&& 63) = Int64.ofInt (n : Int) ∧ ((Int64.ofInt (n : Int)).toBitVec.smod 64).toNat = n ∧ BitVec.twoPow 64 n = BitVec.ofInt 64 ((2 : Int) ^ n) := by decide +kernel
theorem n32_shl (x : Int) {n : Nat} (h : n < 32) : Int32.ofInt x <<< (Int32.ofInt (n : Int) &&& 31) = Int32.ofInt (x * 2 ^ n) := by
  obtain ⟨h1, h2, h3⟩ := n_sh31 n h
  rw [h1]
  apply Int32.toBitVec_inj.mp
  show (BitVec.ofInt 32 x <<< ((Int32.ofInt (n : Int)).toBitVec.smod 32).toNat) = BitVec.ofInt 32 (x * 2 ^ n)
  rw [h2, BitVec.shiftLeft_eq_mul_twoPow, h3, BitVec.ofInt_mul]
theorem n64_shl (x : Int) {n : Nat} (h : n < 64) : Int64.ofInt x <<< ((Int32.ofInt (n : Int)).toInt64 &&& 63) = Int64.ofInt (x * 2 ^ n) := by
  obtain ⟨h1, h2, h3⟩ := n_sh63 n h
  rw [h1]
  apply Int64.toBitVec_inj.mp
  show (BitVec.ofInt 64 x <<< ((Int64.ofInt (n : Int)).toBitVec.smod 64).toNat) = BitVec.ofInt 64 (x * 2 ^ n)
  rw [h2, BitVec.shiftLeft_eq_mul_twoPow, h3, BitVec.ofInt_mul]
theorem n32_shr {x : Int} (hx : i32 x) {n : Nat} (h : n < 32) : Int32.ofInt x >>> (Int32.ofInt (n : Int) &&& 31) = Int32.ofInt (x / 2 ^ n) := by
  obtain ⟨h1, h2, h3⟩ := n_sh31 n h
  rw [h1]
  have e := pk_shr (Int32.ofInt x) (Int32.ofInt (n : Int)) n h2
  rw [n32_toInt hx, Int.shiftRight_eq_div_pow] at e
  rw [← Int32.ofInt_toInt (Int32.ofInt x >>> Int32.ofInt (n : Int)), e]
  rfl
theorem n64_shr {x : Int} (hx : i64 x) {n : Nat} (h : n < 64) : Int64.ofInt x >>> ((Int32.ofInt (n : Int)).toInt64 &&& 63) = Int64.ofInt (x / 2 ^ n) := by
  obtain ⟨h1, h2, h3⟩ := n_sh63 n h
  rw [h1]
  have e : (Int64.ofInt x >>> Int64.ofInt (n : Int)).toInt = (Int64.ofInt x).toInt >>> n := by
    show ((Int64.ofInt x).toBitVec.sshiftRight ((Int64.ofInt (n : Int)).toBitVec.smod 64).toNat).toInt = _
    rw [h2, BitVec.toInt_sshiftRight]
    rfl
  rw [n64_toInt hx, Int.shiftRight_eq_div_pow] at e
  rw [← Int64.ofInt_toInt (Int64.ofInt x >>> Int64.ofInt (n : Int)), e]
  rfl
theorem n32_and (x : Int) (k : Nat) (hk : k ≤ 31) : Int32.ofInt x &&& Int32.ofInt (2 ^ k - 1) = Int32.ofInt (x % 2 ^ k) := by
  have hm : ∀ k : Nat, k < 32 → (Int32.ofInt (2 ^ k - 1)).toBitVec.toNat = 2 ^ k - 1 := by decide +kernel
  rw [pk_and _ k (hm k (by omega))]
  show Int32.ofNat _ = _
  rw [← Int32.ofInt_eq_ofNat]
  congr 1
  show (((BitVec.ofInt 32 x).toNat % 2 ^ k : Nat) : Int) = _
  rw [BitVec.toNat_ofInt]
  have h1 : (0 : Int) ≤ x % 4294967296 := Int.emod_nonneg _ (by decide)
  rw [Int.natCast_emod, show (((2 ^ 32 : Nat) : Nat) : Int) = 4294967296 from rfl, Int.toNat_of_nonneg h1, Int.natCast_pow]
  have hd : ((2 : Nat) : Int) ^ k ∣ 4294967296 := ⟨2 ^ (32 - k), by rw [show ((2 : Nat) : Int) = 2 from rfl, ← Int.pow_add, show k + (32 - k) = 32 by omega]; rfl⟩
  exact Int.emod_emod_of_dvd x hd
theorem n64_and26 (x : Int) : Int64.ofInt x &&& Int64.ofInt 67108863 = Int64.ofInt (x % 67108864) := by
  apply Int64.toBitVec_inj.mp
  show BitVec.ofInt 64 x &&& BitVec.ofInt 64 67108863 = BitVec.ofInt 64 (x % 67108864)
  apply BitVec.eq_of_toNat_eq
  rw [BitVec.toNat_and, BitVec.toNat_ofInt, BitVec.toNat_ofInt, BitVec.toNat_ofInt]
  show (x % 18446744073709551616).toNat &&& 67108863 = (x % 67108864 % 18446744073709551616).toNat
  rw [show (67108863 : Nat) = 2 ^ 26 - 1 from rfl, Nat.and_two_pow_sub_one_eq_mod]
  omega
theorem n32_or : ∀ x : Nat, x < 128 → ∀ k : Nat, k < 7 → Int32.ofInt (x : Int) ||| Int32.ofInt (1 * 2 ^ k) = Int32.ofInt (if (x / 2 ^ k) % 2 = 0 then (x : Int) + 2 ^ k else x) := by decide +kernel
theorem n_i2b (x : Int) : (Int32.ofInt x).toInt8.toInt32 = Int32.ofInt (x.bmod 256) := by
  rw [← Int32.ofInt_toInt ((Int32.ofInt x).toInt8.toInt32)]
  congr 1
  simp
theorem n_i2c {x : Int} (h0 : 0 ≤ x) (h1 : x < 65536) : ((Int32.ofInt x).toUInt32 % 65536).toInt32 = Int32.ofInt x := by
  apply Int32.toBitVec_inj.mp
  show (BitVec.ofInt 32 x % 65536#32) = BitVec.ofInt 32 x
  apply BitVec.eq_of_toNat_eq
  rw [BitVec.toNat_umod, BitVec.toNat_ofInt]
  show (x % 4294967296).toNat % 65536 = (x % 4294967296).toNat
  omega
end

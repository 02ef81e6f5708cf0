section
-- ===== PART A: goes FIRST, ahead of the names: the tables' words, and 'selects' of the private methods out of them =====
/-- a private method of a class that the tables say can be made, by its rows of tables_1 -/
def lw_okq (q : MethodName × Nat) : Prop := (q.1.cls ≠ "java/lang/invoke/MethodHandle" ∧ q.1.cls ≠ "java/lang/invoke/VarHandle") ∧ Cond.instantiable q.1.cls q.2 ∈ tables_1 ∧ Cond.privateMethod q.1 ∈ tables_1 ∧ Cond.instanceMethod q.1 ∈ tables_1
theorem lw_p0 : lw_okq (⟨"SerialGate$Slots", "isCut", "(I)Z"⟩, 15) := ⟨⟨by decide +kernel, by decide +kernel⟩, List.mem_of_getElem? (i := 159) (by decide +kernel), List.mem_of_getElem? (i := 480) (by decide +kernel), List.mem_of_getElem? (i := 481) (by decide +kernel)⟩
theorem lw_p1 : lw_okq (⟨"SerialGate$History", "findAhead", "()V"⟩, 9) := ⟨⟨by decide +kernel, by decide +kernel⟩, List.mem_of_getElem? (i := 239) (by decide +kernel), List.mem_of_getElem? (i := 492) (by decide +kernel), List.mem_of_getElem? (i := 493) (by decide +kernel)⟩
theorem lw_p2 : lw_okq (⟨"SerialGate$History", "mustBeAhead", "(II)Z"⟩, 9) := ⟨⟨by decide +kernel, by decide +kernel⟩, List.mem_of_getElem? (i := 239) (by decide +kernel), List.mem_of_getElem? (i := 500) (by decide +kernel), List.mem_of_getElem? (i := 501) (by decide +kernel)⟩
theorem lw_p3 : lw_okq (⟨"SerialGate$History", "nextRow", "(I)I"⟩, 9) := ⟨⟨by decide +kernel, by decide +kernel⟩, List.mem_of_getElem? (i := 239) (by decide +kernel), List.mem_of_getElem? (i := 504) (by decide +kernel), List.mem_of_getElem? (i := 505) (by decide +kernel)⟩
theorem lw_p4 : lw_okq (⟨"SerialGate$Planner", "areApart", "(I)Z"⟩, 5) := ⟨⟨by decide +kernel, by decide +kernel⟩, List.mem_of_getElem? (i := 368) (by decide +kernel), List.mem_of_getElem? (i := 517) (by decide +kernel), List.mem_of_getElem? (i := 518) (by decide +kernel)⟩
theorem lw_p5 : lw_okq (⟨"SerialGate$Planner", "fitsRound", "(II)Z"⟩, 5) := ⟨⟨by decide +kernel, by decide +kernel⟩, List.mem_of_getElem? (i := 368) (by decide +kernel), List.mem_of_getElem? (i := 540) (by decide +kernel), List.mem_of_getElem? (i := 541) (by decide +kernel)⟩
theorem lw_p6 : lw_okq (⟨"SerialGate$Planner", "coversAll", "(I)Z"⟩, 5) := ⟨⟨by decide +kernel, by decide +kernel⟩, List.mem_of_getElem? (i := 368) (by decide +kernel), List.mem_of_getElem? (i := 552) (by decide +kernel), List.mem_of_getElem? (i := 553) (by decide +kernel)⟩
theorem lw_p7 : lw_okq (⟨"SerialGate", "forgetActs", "()V"⟩, 14) := ⟨⟨by decide +kernel, by decide +kernel⟩, List.mem_of_getElem? (i := 29) (by decide +kernel), List.mem_of_getElem? (i := 642) (by decide +kernel), List.mem_of_getElem? (i := 643) (by decide +kernel)⟩
theorem lw_p8 : lw_okq (⟨"SerialGate$Tape", "pass", "(I)V"⟩, 3) := ⟨⟨by decide +kernel, by decide +kernel⟩, List.mem_of_getElem? (i := 37) (by decide +kernel), List.mem_of_getElem? (i := 663) (by decide +kernel), List.mem_of_getElem? (i := 664) (by decide +kernel)⟩
theorem lw_p9 : lw_okq (⟨"SerialGate$StoreReader", "readsLine", "(LSerialGate$World;)Z"⟩, 1) := ⟨⟨by decide +kernel, by decide +kernel⟩, List.mem_of_getElem? (i := 358) (by decide +kernel), List.mem_of_getElem? (i := 671) (by decide +kernel), List.mem_of_getElem? (i := 672) (by decide +kernel)⟩
theorem lw_p10 : lw_okq (⟨"SerialGate$Tape", "isWithin", "(ICC)Z"⟩, 3) := ⟨⟨by decide +kernel, by decide +kernel⟩, List.mem_of_getElem? (i := 37) (by decide +kernel), List.mem_of_getElem? (i := 728) (by decide +kernel), List.mem_of_getElem? (i := 729) (by decide +kernel)⟩
theorem lw_p11 : lw_okq (⟨"SerialGate$StoreReader", "readsClient", "(LSerialGate$Clients;)Z"⟩, 1) := ⟨⟨by decide +kernel, by decide +kernel⟩, List.mem_of_getElem? (i := 358) (by decide +kernel), List.mem_of_getElem? (i := 732) (by decide +kernel), List.mem_of_getElem? (i := 733) (by decide +kernel)⟩
theorem lw_p12 : lw_okq (⟨"SerialGate$StoreReader", "takenKeys", "()I"⟩, 1) := ⟨⟨by decide +kernel, by decide +kernel⟩, List.mem_of_getElem? (i := 358) (by decide +kernel), List.mem_of_getElem? (i := 737) (by decide +kernel), List.mem_of_getElem? (i := 738) (by decide +kernel)⟩
theorem lw_p13 : lw_okq (⟨"SerialGate$StoreReader", "readsVersion", "(LSerialGate$World;)Z"⟩, 1) := ⟨⟨by decide +kernel, by decide +kernel⟩, List.mem_of_getElem? (i := 358) (by decide +kernel), List.mem_of_getElem? (i := 760) (by decide +kernel), List.mem_of_getElem? (i := 761) (by decide +kernel)⟩
theorem lw_p14 : lw_okq (⟨"SerialGate", "endText", "(Z)V"⟩, 14) := ⟨⟨by decide +kernel, by decide +kernel⟩, List.mem_of_getElem? (i := 29) (by decide +kernel), List.mem_of_getElem? (i := 778) (by decide +kernel), List.mem_of_getElem? (i := 779) (by decide +kernel)⟩
theorem lw_p15 : lw_okq (⟨"java/lang/Throwable", "fillInStackTrace", "(I)Ljava/lang/Throwable;"⟩, 6) := ⟨⟨by decide +kernel, by decide +kernel⟩, List.mem_of_getElem? (i := 826) (by decide +kernel), List.mem_of_getElem? (i := 824) (by decide +kernel), List.mem_of_getElem? (i := 825) (by decide +kernel)⟩
def lw_privs_1 : List (MethodName × Nat) := [(⟨"SerialGate$Slots", "isCut", "(I)Z"⟩, 15), (⟨"SerialGate$History", "findAhead", "()V"⟩, 9), (⟨"SerialGate$History", "mustBeAhead", "(II)Z"⟩, 9), (⟨"SerialGate$History", "nextRow", "(I)I"⟩, 9), (⟨"SerialGate$Planner", "areApart", "(I)Z"⟩, 5), (⟨"SerialGate$Planner", "fitsRound", "(II)Z"⟩, 5), (⟨"SerialGate$Planner", "coversAll", "(I)Z"⟩, 5), (⟨"SerialGate", "forgetActs", "()V"⟩, 14), (⟨"SerialGate$Tape", "pass", "(I)V"⟩, 3), (⟨"SerialGate$StoreReader", "readsLine", "(LSerialGate$World;)Z"⟩, 1), (⟨"SerialGate$Tape", "isWithin", "(ICC)Z"⟩, 3), (⟨"SerialGate$StoreReader", "readsClient", "(LSerialGate$Clients;)Z"⟩, 1), (⟨"SerialGate$StoreReader", "takenKeys", "()I"⟩, 1), (⟨"SerialGate$StoreReader", "readsVersion", "(LSerialGate$World;)Z"⟩, 1), (⟨"SerialGate", "endText", "(Z)V"⟩, 14), (⟨"java/lang/Throwable", "fillInStackTrace", "(I)Ljava/lang/Throwable;"⟩, 6)]
theorem lw_r1 : ∀ q ∈ lw_privs_1, lw_okq q := List.forall_mem_cons.mpr ⟨lw_p0, List.forall_mem_cons.mpr ⟨lw_p1, List.forall_mem_cons.mpr ⟨lw_p2, List.forall_mem_cons.mpr ⟨lw_p3, List.forall_mem_cons.mpr ⟨lw_p4, List.forall_mem_cons.mpr ⟨lw_p5, List.forall_mem_cons.mpr ⟨lw_p6, List.forall_mem_cons.mpr ⟨lw_p7, List.forall_mem_cons.mpr ⟨lw_p8, List.forall_mem_cons.mpr ⟨lw_p9, List.forall_mem_cons.mpr ⟨lw_p10, List.forall_mem_cons.mpr ⟨lw_p11, List.forall_mem_cons.mpr ⟨lw_p12, List.forall_mem_cons.mpr ⟨lw_p13, List.forall_mem_cons.mpr ⟨lw_p14, List.forall_mem_cons.mpr ⟨lw_p15, fun _ h => absurd h List.not_mem_nil⟩⟩⟩⟩⟩⟩⟩⟩⟩⟩⟩⟩⟩⟩⟩⟩
theorem lw_p16 : lw_okq (⟨"SerialGate$World", "summarise", "(I)V"⟩, 14) := ⟨⟨by decide +kernel, by decide +kernel⟩, List.mem_of_getElem? (i := 115) (by decide +kernel), List.mem_of_getElem? (i := 902) (by decide +kernel), List.mem_of_getElem? (i := 903) (by decide +kernel)⟩
theorem lw_p17 : lw_okq (⟨"SerialGate$LawReader", "takenKind", "()I"⟩, 5) := ⟨⟨by decide +kernel, by decide +kernel⟩, List.mem_of_getElem? (i := 90) (by decide +kernel), List.mem_of_getElem? (i := 928) (by decide +kernel), List.mem_of_getElem? (i := 929) (by decide +kernel)⟩
theorem lw_p18 : lw_okq (⟨"SerialGate$LawReader", "readsCondition", "()Z"⟩, 5) := ⟨⟨by decide +kernel, by decide +kernel⟩, List.mem_of_getElem? (i := 90) (by decide +kernel), List.mem_of_getElem? (i := 938) (by decide +kernel), List.mem_of_getElem? (i := 939) (by decide +kernel)⟩
theorem lw_p19 : lw_okq (⟨"SerialGate$LawReader", "goDeeper", "(I)V"⟩, 5) := ⟨⟨by decide +kernel, by decide +kernel⟩, List.mem_of_getElem? (i := 90) (by decide +kernel), List.mem_of_getElem? (i := 943) (by decide +kernel), List.mem_of_getElem? (i := 944) (by decide +kernel)⟩
theorem lw_p20 : lw_okq (⟨"SerialGate$LawReader", "push", "(I)V"⟩, 5) := ⟨⟨by decide +kernel, by decide +kernel⟩, List.mem_of_getElem? (i := 90) (by decide +kernel), List.mem_of_getElem? (i := 947) (by decide +kernel), List.mem_of_getElem? (i := 948) (by decide +kernel)⟩
theorem lw_p21 : lw_okq (⟨"SerialGate$LawReader", "readsAtom", "()Z"⟩, 5) := ⟨⟨by decide +kernel, by decide +kernel⟩, List.mem_of_getElem? (i := 90) (by decide +kernel), List.mem_of_getElem? (i := 952) (by decide +kernel), List.mem_of_getElem? (i := 953) (by decide +kernel)⟩
theorem lw_p22 : lw_okq (⟨"SerialGate$LawReader", "takenFlag", "()I"⟩, 5) := ⟨⟨by decide +kernel, by decide +kernel⟩, List.mem_of_getElem? (i := 90) (by decide +kernel), List.mem_of_getElem? (i := 956) (by decide +kernel), List.mem_of_getElem? (i := 957) (by decide +kernel)⟩
theorem lw_p23 : lw_okq (⟨"SerialGate$LawReader", "readsSum", "()Z"⟩, 5) := ⟨⟨by decide +kernel, by decide +kernel⟩, List.mem_of_getElem? (i := 90) (by decide +kernel), List.mem_of_getElem? (i := 967) (by decide +kernel), List.mem_of_getElem? (i := 968) (by decide +kernel)⟩
theorem lw_p24 : lw_okq (⟨"SerialGate$LawReader", "takenFact", "()I"⟩, 5) := ⟨⟨by decide +kernel, by decide +kernel⟩, List.mem_of_getElem? (i := 90) (by decide +kernel), List.mem_of_getElem? (i := 971) (by decide +kernel), List.mem_of_getElem? (i := 972) (by decide +kernel)⟩
theorem lw_p25 : lw_okq (⟨"SerialGate$LawReader", "endNots", "()V"⟩, 5) := ⟨⟨by decide +kernel, by decide +kernel⟩, List.mem_of_getElem? (i := 90) (by decide +kernel), List.mem_of_getElem? (i := 982) (by decide +kernel), List.mem_of_getElem? (i := 983) (by decide +kernel)⟩
theorem lw_p26 : lw_okq (⟨"SerialGate$LawReader", "isPending", "(II)Z"⟩, 5) := ⟨⟨by decide +kernel, by decide +kernel⟩, List.mem_of_getElem? (i := 90) (by decide +kernel), List.mem_of_getElem? (i := 986) (by decide +kernel), List.mem_of_getElem? (i := 987) (by decide +kernel)⟩
theorem lw_p27 : lw_okq (⟨"SerialGate$LawReader", "join", "(II)V"⟩, 5) := ⟨⟨by decide +kernel, by decide +kernel⟩, List.mem_of_getElem? (i := 90) (by decide +kernel), List.mem_of_getElem? (i := 991) (by decide +kernel), List.mem_of_getElem? (i := 992) (by decide +kernel)⟩
theorem lw_p28 : lw_okq (⟨"SerialGate$LawReader", "endBracket", "()V"⟩, 5) := ⟨⟨by decide +kernel, by decide +kernel⟩, List.mem_of_getElem? (i := 90) (by decide +kernel), List.mem_of_getElem? (i := 996) (by decide +kernel), List.mem_of_getElem? (i := 997) (by decide +kernel)⟩
theorem lw_p29 : lw_okq (⟨"SerialGate$World", "tellLaw", "(I)V"⟩, 14) := ⟨⟨by decide +kernel, by decide +kernel⟩, List.mem_of_getElem? (i := 115) (by decide +kernel), List.mem_of_getElem? (i := 1060) (by decide +kernel), List.mem_of_getElem? (i := 1061) (by decide +kernel)⟩
theorem lw_p30 : lw_okq (⟨"SerialGate$Law", "holds", "(I)Z"⟩, 8) := ⟨⟨by decide +kernel, by decide +kernel⟩, List.mem_of_getElem? (i := 57) (by decide +kernel), List.mem_of_getElem? (i := 1073) (by decide +kernel), List.mem_of_getElem? (i := 1074) (by decide +kernel)⟩
theorem lw_p31 : lw_okq (⟨"SerialGate", "needClient", "(I)V"⟩, 14) := ⟨⟨by decide +kernel, by decide +kernel⟩, List.mem_of_getElem? (i := 29) (by decide +kernel), List.mem_of_getElem? (i := 1115) (by decide +kernel), List.mem_of_getElem? (i := 1116) (by decide +kernel)⟩
def lw_privs_2 : List (MethodName × Nat) := [(⟨"SerialGate$World", "summarise", "(I)V"⟩, 14), (⟨"SerialGate$LawReader", "takenKind", "()I"⟩, 5), (⟨"SerialGate$LawReader", "readsCondition", "()Z"⟩, 5), (⟨"SerialGate$LawReader", "goDeeper", "(I)V"⟩, 5), (⟨"SerialGate$LawReader", "push", "(I)V"⟩, 5), (⟨"SerialGate$LawReader", "readsAtom", "()Z"⟩, 5), (⟨"SerialGate$LawReader", "takenFlag", "()I"⟩, 5), (⟨"SerialGate$LawReader", "readsSum", "()Z"⟩, 5), (⟨"SerialGate$LawReader", "takenFact", "()I"⟩, 5), (⟨"SerialGate$LawReader", "endNots", "()V"⟩, 5), (⟨"SerialGate$LawReader", "isPending", "(II)Z"⟩, 5), (⟨"SerialGate$LawReader", "join", "(II)V"⟩, 5), (⟨"SerialGate$LawReader", "endBracket", "()V"⟩, 5), (⟨"SerialGate$World", "tellLaw", "(I)V"⟩, 14), (⟨"SerialGate$Law", "holds", "(I)Z"⟩, 8), (⟨"SerialGate", "needClient", "(I)V"⟩, 14)]
theorem lw_r2 : ∀ q ∈ lw_privs_2, lw_okq q := List.forall_mem_cons.mpr ⟨lw_p16, List.forall_mem_cons.mpr ⟨lw_p17, List.forall_mem_cons.mpr ⟨lw_p18, List.forall_mem_cons.mpr ⟨lw_p19, List.forall_mem_cons.mpr ⟨lw_p20, List.forall_mem_cons.mpr ⟨lw_p21, List.forall_mem_cons.mpr ⟨lw_p22, List.forall_mem_cons.mpr ⟨lw_p23, List.forall_mem_cons.mpr ⟨lw_p24, List.forall_mem_cons.mpr ⟨lw_p25, List.forall_mem_cons.mpr ⟨lw_p26, List.forall_mem_cons.mpr ⟨lw_p27, List.forall_mem_cons.mpr ⟨lw_p28, List.forall_mem_cons.mpr ⟨lw_p29, List.forall_mem_cons.mpr ⟨lw_p30, List.forall_mem_cons.mpr ⟨lw_p31, fun _ h => absurd h List.not_mem_nil⟩⟩⟩⟩⟩⟩⟩⟩⟩⟩⟩⟩⟩⟩⟩⟩
theorem lw_p32 : lw_okq (⟨"SerialGate", "remember", "()V"⟩, 14) := ⟨⟨by decide +kernel, by decide +kernel⟩, List.mem_of_getElem? (i := 29) (by decide +kernel), List.mem_of_getElem? (i := 1155) (by decide +kernel), List.mem_of_getElem? (i := 1156) (by decide +kernel)⟩
theorem lw_p33 : lw_okq (⟨"SerialGate$World", "draw", "()I"⟩, 14) := ⟨⟨by decide +kernel, by decide +kernel⟩, List.mem_of_getElem? (i := 115) (by decide +kernel), List.mem_of_getElem? (i := 1164) (by decide +kernel), List.mem_of_getElem? (i := 1165) (by decide +kernel)⟩
theorem lw_p34 : lw_okq (⟨"SerialGate$Slots", "isConcurrent", "(II)Z"⟩, 15) := ⟨⟨by decide +kernel, by decide +kernel⟩, List.mem_of_getElem? (i := 159) (by decide +kernel), List.mem_of_getElem? (i := 1193) (by decide +kernel), List.mem_of_getElem? (i := 1194) (by decide +kernel)⟩
theorem lw_p35 : lw_okq (⟨"SerialGate$World", "settle", "()V"⟩, 14) := ⟨⟨by decide +kernel, by decide +kernel⟩, List.mem_of_getElem? (i := 115) (by decide +kernel), List.mem_of_getElem? (i := 1203) (by decide +kernel), List.mem_of_getElem? (i := 1204) (by decide +kernel)⟩
theorem lw_p36 : lw_okq (⟨"SerialGate$Slots", "isEndangered", "(II)Z"⟩, 15) := ⟨⟨by decide +kernel, by decide +kernel⟩, List.mem_of_getElem? (i := 159) (by decide +kernel), List.mem_of_getElem? (i := 1217) (by decide +kernel), List.mem_of_getElem? (i := 1218) (by decide +kernel)⟩
theorem lw_p37 : lw_okq (⟨"SerialGate$World", "victim", "(II)I"⟩, 14) := ⟨⟨by decide +kernel, by decide +kernel⟩, List.mem_of_getElem? (i := 115) (by decide +kernel), List.mem_of_getElem? (i := 1222) (by decide +kernel), List.mem_of_getElem? (i := 1223) (by decide +kernel)⟩
theorem lw_p38 : lw_okq (⟨"SerialGate", "needRunning", "(I)V"⟩, 14) := ⟨⟨by decide +kernel, by decide +kernel⟩, List.mem_of_getElem? (i := 29) (by decide +kernel), List.mem_of_getElem? (i := 1292) (by decide +kernel), List.mem_of_getElem? (i := 1293) (by decide +kernel)⟩
theorem lw_p39 : lw_okq (⟨"SerialGate", "needTwo", "(II)V"⟩, 14) := ⟨⟨by decide +kernel, by decide +kernel⟩, List.mem_of_getElem? (i := 29) (by decide +kernel), List.mem_of_getElem? (i := 1363) (by decide +kernel), List.mem_of_getElem? (i := 1364) (by decide +kernel)⟩
theorem lw_p40 : lw_okq (⟨"SerialGate", "fittingClients", "()I"⟩, 14) := ⟨⟨by decide +kernel, by decide +kernel⟩, List.mem_of_getElem? (i := 29) (by decide +kernel), List.mem_of_getElem? (i := 1380) (by decide +kernel), List.mem_of_getElem? (i := 1381) (by decide +kernel)⟩
theorem lw_p41 : lw_okq (⟨"SerialGate", "wrongRows", "(I)I"⟩, 14) := ⟨⟨by decide +kernel, by decide +kernel⟩, List.mem_of_getElem? (i := 29) (by decide +kernel), List.mem_of_getElem? (i := 1384) (by decide +kernel), List.mem_of_getElem? (i := 1385) (by decide +kernel)⟩
theorem lw_p42 : lw_okq (⟨"SerialGate$Log", "isLed", "(II)Z"⟩, 3) := ⟨⟨by decide +kernel, by decide +kernel⟩, List.mem_of_getElem? (i := 280) (by decide +kernel), List.mem_of_getElem? (i := 1489) (by decide +kernel), List.mem_of_getElem? (i := 1490) (by decide +kernel)⟩
theorem lw_p43 : lw_okq (⟨"SerialGateModel", "readAll", "(Z)I"⟩, 23) := ⟨⟨by decide +kernel, by decide +kernel⟩, List.mem_of_getElem? (i := 1513) (by decide +kernel), List.mem_of_getElem? (i := 1618) (by decide +kernel), List.mem_of_getElem? (i := 1619) (by decide +kernel)⟩
theorem lw_p44 : lw_okq (⟨"SerialGateModel", "uses", "()V"⟩, 23) := ⟨⟨by decide +kernel, by decide +kernel⟩, List.mem_of_getElem? (i := 1513) (by decide +kernel), List.mem_of_getElem? (i := 1622) (by decide +kernel), List.mem_of_getElem? (i := 1623) (by decide +kernel)⟩
theorem lw_p45 : lw_okq (⟨"SerialGateModel", "blanks", "()V"⟩, 23) := ⟨⟨by decide +kernel, by decide +kernel⟩, List.mem_of_getElem? (i := 1513) (by decide +kernel), List.mem_of_getElem? (i := 1626) (by decide +kernel), List.mem_of_getElem? (i := 1627) (by decide +kernel)⟩
theorem lw_p46 : lw_okq (⟨"SerialGateModel", "isAt", "(II)Z"⟩, 23) := ⟨⟨by decide +kernel, by decide +kernel⟩, List.mem_of_getElem? (i := 1513) (by decide +kernel), List.mem_of_getElem? (i := 1630) (by decide +kernel), List.mem_of_getElem? (i := 1631) (by decide +kernel)⟩
theorem lw_p47 : lw_okq (⟨"SerialGateModel", "readLine", "(ZI)Z"⟩, 23) := ⟨⟨by decide +kernel, by decide +kernel⟩, List.mem_of_getElem? (i := 1513) (by decide +kernel), List.mem_of_getElem? (i := 1634) (by decide +kernel), List.mem_of_getElem? (i := 1635) (by decide +kernel)⟩
def lw_privs_3 : List (MethodName × Nat) := [(⟨"SerialGate", "remember", "()V"⟩, 14), (⟨"SerialGate$World", "draw", "()I"⟩, 14), (⟨"SerialGate$Slots", "isConcurrent", "(II)Z"⟩, 15), (⟨"SerialGate$World", "settle", "()V"⟩, 14), (⟨"SerialGate$Slots", "isEndangered", "(II)Z"⟩, 15), (⟨"SerialGate$World", "victim", "(II)I"⟩, 14), (⟨"SerialGate", "needRunning", "(I)V"⟩, 14), (⟨"SerialGate", "needTwo", "(II)V"⟩, 14), (⟨"SerialGate", "fittingClients", "()I"⟩, 14), (⟨"SerialGate", "wrongRows", "(I)I"⟩, 14), (⟨"SerialGate$Log", "isLed", "(II)Z"⟩, 3), (⟨"SerialGateModel", "readAll", "(Z)I"⟩, 23), (⟨"SerialGateModel", "uses", "()V"⟩, 23), (⟨"SerialGateModel", "blanks", "()V"⟩, 23), (⟨"SerialGateModel", "isAt", "(II)Z"⟩, 23), (⟨"SerialGateModel", "readLine", "(ZI)Z"⟩, 23)]
theorem lw_r3 : ∀ q ∈ lw_privs_3, lw_okq q := List.forall_mem_cons.mpr ⟨lw_p32, List.forall_mem_cons.mpr ⟨lw_p33, List.forall_mem_cons.mpr ⟨lw_p34, List.forall_mem_cons.mpr ⟨lw_p35, List.forall_mem_cons.mpr ⟨lw_p36, List.forall_mem_cons.mpr ⟨lw_p37, List.forall_mem_cons.mpr ⟨lw_p38, List.forall_mem_cons.mpr ⟨lw_p39, List.forall_mem_cons.mpr ⟨lw_p40, List.forall_mem_cons.mpr ⟨lw_p41, List.forall_mem_cons.mpr ⟨lw_p42, List.forall_mem_cons.mpr ⟨lw_p43, List.forall_mem_cons.mpr ⟨lw_p44, List.forall_mem_cons.mpr ⟨lw_p45, List.forall_mem_cons.mpr ⟨lw_p46, List.forall_mem_cons.mpr ⟨lw_p47, fun _ h => absurd h List.not_mem_nil⟩⟩⟩⟩⟩⟩⟩⟩⟩⟩⟩⟩⟩⟩⟩⟩
theorem lw_p48 : lw_okq (⟨"SerialGateModel", "letters", "()V"⟩, 23) := ⟨⟨by decide +kernel, by decide +kernel⟩, List.mem_of_getElem? (i := 1513) (by decide +kernel), List.mem_of_getElem? (i := 1638) (by decide +kernel), List.mem_of_getElem? (i := 1639) (by decide +kernel)⟩
theorem lw_p49 : lw_okq (⟨"SerialGateModel", "readStoreLine", "()Z"⟩, 23) := ⟨⟨by decide +kernel, by decide +kernel⟩, List.mem_of_getElem? (i := 1513) (by decide +kernel), List.mem_of_getElem? (i := 1642) (by decide +kernel), List.mem_of_getElem? (i := 1643) (by decide +kernel)⟩
theorem lw_p50 : lw_okq (⟨"SerialGateModel", "isWord", "(Ljava/lang/String;)Z"⟩, 23) := ⟨⟨by decide +kernel, by decide +kernel⟩, List.mem_of_getElem? (i := 1513) (by decide +kernel), List.mem_of_getElem? (i := 1647) (by decide +kernel), List.mem_of_getElem? (i := 1648) (by decide +kernel)⟩
theorem lw_p51 : lw_okq (⟨"SerialGateModel", "readClient", "()Z"⟩, 23) := ⟨⟨by decide +kernel, by decide +kernel⟩, List.mem_of_getElem? (i := 1513) (by decide +kernel), List.mem_of_getElem? (i := 1653) (by decide +kernel), List.mem_of_getElem? (i := 1654) (by decide +kernel)⟩
theorem lw_p52 : lw_okq (⟨"SerialGateModel", "clients", "()I"⟩, 23) := ⟨⟨by decide +kernel, by decide +kernel⟩, List.mem_of_getElem? (i := 1513) (by decide +kernel), List.mem_of_getElem? (i := 1657) (by decide +kernel), List.mem_of_getElem? (i := 1658) (by decide +kernel)⟩
theorem lw_p53 : lw_okq (⟨"SerialGateModel", "keysTold", "(Ljava/lang/String;)I"⟩, 23) := ⟨⟨by decide +kernel, by decide +kernel⟩, List.mem_of_getElem? (i := 1513) (by decide +kernel), List.mem_of_getElem? (i := 1662) (by decide +kernel), List.mem_of_getElem? (i := 1663) (by decide +kernel)⟩
theorem lw_p54 : lw_okq (⟨"SerialGateModel", "passes", "(Ljava/lang/String;)Z"⟩, 23) := ⟨⟨by decide +kernel, by decide +kernel⟩, List.mem_of_getElem? (i := 1513) (by decide +kernel), List.mem_of_getElem? (i := 1666) (by decide +kernel), List.mem_of_getElem? (i := 1667) (by decide +kernel)⟩
theorem lw_p55 : lw_okq (⟨"SerialGateModel", "number", "(II)I"⟩, 23) := ⟨⟨by decide +kernel, by decide +kernel⟩, List.mem_of_getElem? (i := 1513) (by decide +kernel), List.mem_of_getElem? (i := 1670) (by decide +kernel), List.mem_of_getElem? (i := 1671) (by decide +kernel)⟩
theorem lw_p56 : lw_okq (⟨"SerialGateModel", "isNumberNext", "()Z"⟩, 23) := ⟨⟨by decide +kernel, by decide +kernel⟩, List.mem_of_getElem? (i := 1513) (by decide +kernel), List.mem_of_getElem? (i := 1674) (by decide +kernel), List.mem_of_getElem? (i := 1675) (by decide +kernel)⟩
theorem lw_p57 : lw_okq (⟨"SerialGateModel", "readVersion", "()Z"⟩, 23) := ⟨⟨by decide +kernel, by decide +kernel⟩, List.mem_of_getElem? (i := 1513) (by decide +kernel), List.mem_of_getElem? (i := 1684) (by decide +kernel), List.mem_of_getElem? (i := 1685) (by decide +kernel)⟩
theorem lw_p58 : lw_okq (⟨"SerialGateModel", "writerOf", "(I)I"⟩, 23) := ⟨⟨by decide +kernel, by decide +kernel⟩, List.mem_of_getElem? (i := 1513) (by decide +kernel), List.mem_of_getElem? (i := 1688) (by decide +kernel), List.mem_of_getElem? (i := 1689) (by decide +kernel)⟩
theorem lw_p59 : lw_okq (⟨"SerialGateModel", "runs", "(I)Z"⟩, 23) := ⟨⟨by decide +kernel, by decide +kernel⟩, List.mem_of_getElem? (i := 1513) (by decide +kernel), List.mem_of_getElem? (i := 1692) (by decide +kernel), List.mem_of_getElem? (i := 1693) (by decide +kernel)⟩
theorem lw_p60 : lw_okq (⟨"SerialGateModel", "of", "(II)I"⟩, 23) := ⟨⟨by decide +kernel, by decide +kernel⟩, List.mem_of_getElem? (i := 1513) (by decide +kernel), List.mem_of_getElem? (i := 1696) (by decide +kernel), List.mem_of_getElem? (i := 1697) (by decide +kernel)⟩
theorem lw_p61 : lw_okq (⟨"SerialGateModel", "ofKey", "(II)I"⟩, 23) := ⟨⟨by decide +kernel, by decide +kernel⟩, List.mem_of_getElem? (i := 1513) (by decide +kernel), List.mem_of_getElem? (i := 1709) (by decide +kernel), List.mem_of_getElem? (i := 1710) (by decide +kernel)⟩
theorem lw_p62 : lw_okq (⟨"SerialGateModel", "readNumber", "(III)Z"⟩, 23) := ⟨⟨by decide +kernel, by decide +kernel⟩, List.mem_of_getElem? (i := 1513) (by decide +kernel), List.mem_of_getElem? (i := 1715) (by decide +kernel), List.mem_of_getElem? (i := 1716) (by decide +kernel)⟩
theorem lw_p63 : lw_okq (⟨"SerialGateModel", "readLawLine", "(I)Z"⟩, 23) := ⟨⟨by decide +kernel, by decide +kernel⟩, List.mem_of_getElem? (i := 1513) (by decide +kernel), List.mem_of_getElem? (i := 1720) (by decide +kernel), List.mem_of_getElem? (i := 1721) (by decide +kernel)⟩
def lw_privs_4 : List (MethodName × Nat) := [(⟨"SerialGateModel", "letters", "()V"⟩, 23), (⟨"SerialGateModel", "readStoreLine", "()Z"⟩, 23), (⟨"SerialGateModel", "isWord", "(Ljava/lang/String;)Z"⟩, 23), (⟨"SerialGateModel", "readClient", "()Z"⟩, 23), (⟨"SerialGateModel", "clients", "()I"⟩, 23), (⟨"SerialGateModel", "keysTold", "(Ljava/lang/String;)I"⟩, 23), (⟨"SerialGateModel", "passes", "(Ljava/lang/String;)Z"⟩, 23), (⟨"SerialGateModel", "number", "(II)I"⟩, 23), (⟨"SerialGateModel", "isNumberNext", "()Z"⟩, 23), (⟨"SerialGateModel", "readVersion", "()Z"⟩, 23), (⟨"SerialGateModel", "writerOf", "(I)I"⟩, 23), (⟨"SerialGateModel", "runs", "(I)Z"⟩, 23), (⟨"SerialGateModel", "of", "(II)I"⟩, 23), (⟨"SerialGateModel", "ofKey", "(II)I"⟩, 23), (⟨"SerialGateModel", "readNumber", "(III)Z"⟩, 23), (⟨"SerialGateModel", "readLawLine", "(I)Z"⟩, 23)]
theorem lw_r4 : ∀ q ∈ lw_privs_4, lw_okq q := List.forall_mem_cons.mpr ⟨lw_p48, List.forall_mem_cons.mpr ⟨lw_p49, List.forall_mem_cons.mpr ⟨lw_p50, List.forall_mem_cons.mpr ⟨lw_p51, List.forall_mem_cons.mpr ⟨lw_p52, List.forall_mem_cons.mpr ⟨lw_p53, List.forall_mem_cons.mpr ⟨lw_p54, List.forall_mem_cons.mpr ⟨lw_p55, List.forall_mem_cons.mpr ⟨lw_p56, List.forall_mem_cons.mpr ⟨lw_p57, List.forall_mem_cons.mpr ⟨lw_p58, List.forall_mem_cons.mpr ⟨lw_p59, List.forall_mem_cons.mpr ⟨lw_p60, List.forall_mem_cons.mpr ⟨lw_p61, List.forall_mem_cons.mpr ⟨lw_p62, List.forall_mem_cons.mpr ⟨lw_p63, fun _ h => absurd h List.not_mem_nil⟩⟩⟩⟩⟩⟩⟩⟩⟩⟩⟩⟩⟩⟩⟩⟩
theorem lw_p64 : lw_okq (⟨"SerialGateModel", "readCond", "()Z"⟩, 23) := ⟨⟨by decide +kernel, by decide +kernel⟩, List.mem_of_getElem? (i := 1513) (by decide +kernel), List.mem_of_getElem? (i := 1728) (by decide +kernel), List.mem_of_getElem? (i := 1729) (by decide +kernel)⟩
theorem lw_p65 : lw_okq (⟨"SerialGateModel", "readAllOf", "()Z"⟩, 23) := ⟨⟨by decide +kernel, by decide +kernel⟩, List.mem_of_getElem? (i := 1513) (by decide +kernel), List.mem_of_getElem? (i := 1732) (by decide +kernel), List.mem_of_getElem? (i := 1733) (by decide +kernel)⟩
theorem lw_p66 : lw_okq (⟨"SerialGateModel", "readAtom", "()Z"⟩, 23) := ⟨⟨by decide +kernel, by decide +kernel⟩, List.mem_of_getElem? (i := 1513) (by decide +kernel), List.mem_of_getElem? (i := 1736) (by decide +kernel), List.mem_of_getElem? (i := 1737) (by decide +kernel)⟩
theorem lw_p67 : lw_okq (⟨"SerialGateModel", "sign", "(I)Z"⟩, 23) := ⟨⟨by decide +kernel, by decide +kernel⟩, List.mem_of_getElem? (i := 1513) (by decide +kernel), List.mem_of_getElem? (i := 1740) (by decide +kernel), List.mem_of_getElem? (i := 1741) (by decide +kernel)⟩
theorem lw_p68 : lw_okq (⟨"SerialGateModel", "emits", "(II)V"⟩, 23) := ⟨⟨by decide +kernel, by decide +kernel⟩, List.mem_of_getElem? (i := 1513) (by decide +kernel), List.mem_of_getElem? (i := 1745) (by decide +kernel), List.mem_of_getElem? (i := 1746) (by decide +kernel)⟩
theorem lw_p69 : lw_okq (⟨"SerialGateModel", "readTag", "()Z"⟩, 23) := ⟨⟨by decide +kernel, by decide +kernel⟩, List.mem_of_getElem? (i := 1513) (by decide +kernel), List.mem_of_getElem? (i := 1749) (by decide +kernel), List.mem_of_getElem? (i := 1750) (by decide +kernel)⟩
theorem lw_p70 : lw_okq (⟨"SerialGateModel", "readSum", "()Z"⟩, 23) := ⟨⟨by decide +kernel, by decide +kernel⟩, List.mem_of_getElem? (i := 1513) (by decide +kernel), List.mem_of_getElem? (i := 1755) (by decide +kernel), List.mem_of_getElem? (i := 1756) (by decide +kernel)⟩
theorem lw_p71 : lw_okq (⟨"SerialGateModel", "readPart", "()Z"⟩, 23) := ⟨⟨by decide +kernel, by decide +kernel⟩, List.mem_of_getElem? (i := 1513) (by decide +kernel), List.mem_of_getElem? (i := 1759) (by decide +kernel), List.mem_of_getElem? (i := 1760) (by decide +kernel)⟩
theorem lw_p72 : lw_okq (⟨"SerialGateModel", "wordOfPart", "()I"⟩, 23) := ⟨⟨by decide +kernel, by decide +kernel⟩, List.mem_of_getElem? (i := 1513) (by decide +kernel), List.mem_of_getElem? (i := 1763) (by decide +kernel), List.mem_of_getElem? (i := 1764) (by decide +kernel)⟩
theorem lw_p73 : lw_okq (⟨"SerialGateModel", "throwsIf", "(ZI)Z"⟩, 23) := ⟨⟨by decide +kernel, by decide +kernel⟩, List.mem_of_getElem? (i := 1513) (by decide +kernel), List.mem_of_getElem? (i := 1773) (by decide +kernel), List.mem_of_getElem? (i := 1774) (by decide +kernel)⟩
theorem lw_p74 : lw_okq (⟨"SerialGateModel", "isTidy", "()V"⟩, 23) := ⟨⟨by decide +kernel, by decide +kernel⟩, List.mem_of_getElem? (i := 1513) (by decide +kernel), List.mem_of_getElem? (i := 1777) (by decide +kernel), List.mem_of_getElem? (i := 1778) (by decide +kernel)⟩
theorem lw_p75 : lw_okq (⟨"SerialGateModel", "allIn", "(I)I"⟩, 23) := ⟨⟨by decide +kernel, by decide +kernel⟩, List.mem_of_getElem? (i := 1513) (by decide +kernel), List.mem_of_getElem? (i := 1781) (by decide +kernel), List.mem_of_getElem? (i := 1782) (by decide +kernel)⟩
theorem lw_p76 : lw_okq (⟨"SerialGateModel", "leastEnded", "(I)I"⟩, 23) := ⟨⟨by decide +kernel, by decide +kernel⟩, List.mem_of_getElem? (i := 1513) (by decide +kernel), List.mem_of_getElem? (i := 1785) (by decide +kernel), List.mem_of_getElem? (i := 1786) (by decide +kernel)⟩
theorem lw_p77 : lw_okq (⟨"SerialGateModel", "leaves", "(II)V"⟩, 23) := ⟨⟨by decide +kernel, by decide +kernel⟩, List.mem_of_getElem? (i := 1513) (by decide +kernel), List.mem_of_getElem? (i := 1789) (by decide +kernel), List.mem_of_getElem? (i := 1790) (by decide +kernel)⟩
theorem lw_p78 : lw_okq (⟨"SerialGateModel", "isTold", "(II)V"⟩, 23) := ⟨⟨by decide +kernel, by decide +kernel⟩, List.mem_of_getElem? (i := 1513) (by decide +kernel), List.mem_of_getElem? (i := 1793) (by decide +kernel), List.mem_of_getElem? (i := 1794) (by decide +kernel)⟩
theorem lw_p79 : lw_okq (⟨"SerialGateModel", "isFree", "(I)V"⟩, 23) := ⟨⟨by decide +kernel, by decide +kernel⟩, List.mem_of_getElem? (i := 1513) (by decide +kernel), List.mem_of_getElem? (i := 1798) (by decide +kernel), List.mem_of_getElem? (i := 1799) (by decide +kernel)⟩
def lw_privs_5 : List (MethodName × Nat) := [(⟨"SerialGateModel", "readCond", "()Z"⟩, 23), (⟨"SerialGateModel", "readAllOf", "()Z"⟩, 23), (⟨"SerialGateModel", "readAtom", "()Z"⟩, 23), (⟨"SerialGateModel", "sign", "(I)Z"⟩, 23), (⟨"SerialGateModel", "emits", "(II)V"⟩, 23), (⟨"SerialGateModel", "readTag", "()Z"⟩, 23), (⟨"SerialGateModel", "readSum", "()Z"⟩, 23), (⟨"SerialGateModel", "readPart", "()Z"⟩, 23), (⟨"SerialGateModel", "wordOfPart", "()I"⟩, 23), (⟨"SerialGateModel", "throwsIf", "(ZI)Z"⟩, 23), (⟨"SerialGateModel", "isTidy", "()V"⟩, 23), (⟨"SerialGateModel", "allIn", "(I)I"⟩, 23), (⟨"SerialGateModel", "leastEnded", "(I)I"⟩, 23), (⟨"SerialGateModel", "leaves", "(II)V"⟩, 23), (⟨"SerialGateModel", "isTold", "(II)V"⟩, 23), (⟨"SerialGateModel", "isFree", "(I)V"⟩, 23)]
theorem lw_r5 : ∀ q ∈ lw_privs_5, lw_okq q := List.forall_mem_cons.mpr ⟨lw_p64, List.forall_mem_cons.mpr ⟨lw_p65, List.forall_mem_cons.mpr ⟨lw_p66, List.forall_mem_cons.mpr ⟨lw_p67, List.forall_mem_cons.mpr ⟨lw_p68, List.forall_mem_cons.mpr ⟨lw_p69, List.forall_mem_cons.mpr ⟨lw_p70, List.forall_mem_cons.mpr ⟨lw_p71, List.forall_mem_cons.mpr ⟨lw_p72, List.forall_mem_cons.mpr ⟨lw_p73, List.forall_mem_cons.mpr ⟨lw_p74, List.forall_mem_cons.mpr ⟨lw_p75, List.forall_mem_cons.mpr ⟨lw_p76, List.forall_mem_cons.mpr ⟨lw_p77, List.forall_mem_cons.mpr ⟨lw_p78, List.forall_mem_cons.mpr ⟨lw_p79, fun _ h => absurd h List.not_mem_nil⟩⟩⟩⟩⟩⟩⟩⟩⟩⟩⟩⟩⟩⟩⟩⟩
theorem lw_p80 : lw_okq (⟨"SerialGateModel", "isSummed", "(I)V"⟩, 23) := ⟨⟨by decide +kernel, by decide +kernel⟩, List.mem_of_getElem? (i := 1513) (by decide +kernel), List.mem_of_getElem? (i := 1803) (by decide +kernel), List.mem_of_getElem? (i := 1804) (by decide +kernel)⟩
theorem lw_p81 : lw_okq (⟨"SerialGateModel", "firstOut", "(I)I"⟩, 23) := ⟨⟨by decide +kernel, by decide +kernel⟩, List.mem_of_getElem? (i := 1513) (by decide +kernel), List.mem_of_getElem? (i := 1807) (by decide +kernel), List.mem_of_getElem? (i := 1808) (by decide +kernel)⟩
theorem lw_p82 : lw_okq (⟨"SerialGateModel", "isDone", "(I)Z"⟩, 23) := ⟨⟨by decide +kernel, by decide +kernel⟩, List.mem_of_getElem? (i := 1513) (by decide +kernel), List.mem_of_getElem? (i := 1811) (by decide +kernel), List.mem_of_getElem? (i := 1812) (by decide +kernel)⟩
theorem lw_p83 : lw_okq (⟨"SerialGateModel", "inOf", "(I)I"⟩, 23) := ⟨⟨by decide +kernel, by decide +kernel⟩, List.mem_of_getElem? (i := 1513) (by decide +kernel), List.mem_of_getElem? (i := 1829) (by decide +kernel), List.mem_of_getElem? (i := 1830) (by decide +kernel)⟩
theorem lw_p84 : lw_okq (⟨"SerialGateModel", "blameOf", "(I)I"⟩, 23) := ⟨⟨by decide +kernel, by decide +kernel⟩, List.mem_of_getElem? (i := 1513) (by decide +kernel), List.mem_of_getElem? (i := 1833) (by decide +kernel), List.mem_of_getElem? (i := 1834) (by decide +kernel)⟩
theorem lw_p85 : lw_okq (⟨"SerialGateModel", "sumOf", "(II)I"⟩, 23) := ⟨⟨by decide +kernel, by decide +kernel⟩, List.mem_of_getElem? (i := 1513) (by decide +kernel), List.mem_of_getElem? (i := 1837) (by decide +kernel), List.mem_of_getElem? (i := 1838) (by decide +kernel)⟩
theorem lw_p86 : lw_okq (⟨"SerialGateModel", "holdsLine", "(II)Z"⟩, 23) := ⟨⟨by decide +kernel, by decide +kernel⟩, List.mem_of_getElem? (i := 1513) (by decide +kernel), List.mem_of_getElem? (i := 1841) (by decide +kernel), List.mem_of_getElem? (i := 1842) (by decide +kernel)⟩
theorem lw_p87 : lw_okq (⟨"SerialGateModel", "factOf", "(III)I"⟩, 23) := ⟨⟨by decide +kernel, by decide +kernel⟩, List.mem_of_getElem? (i := 1513) (by decide +kernel), List.mem_of_getElem? (i := 1845) (by decide +kernel), List.mem_of_getElem? (i := 1846) (by decide +kernel)⟩
theorem lw_p88 : lw_okq (⟨"SerialGateModel", "ofClient", "(II)I"⟩, 23) := ⟨⟨by decide +kernel, by decide +kernel⟩, List.mem_of_getElem? (i := 1513) (by decide +kernel), List.mem_of_getElem? (i := 1849) (by decide +kernel), List.mem_of_getElem? (i := 1850) (by decide +kernel)⟩
theorem lw_p89 : lw_okq (⟨"SerialGateModel", "isPivot", "(I)Z"⟩, 23) := ⟨⟨by decide +kernel, by decide +kernel⟩, List.mem_of_getElem? (i := 1513) (by decide +kernel), List.mem_of_getElem? (i := 1853) (by decide +kernel), List.mem_of_getElem? (i := 1854) (by decide +kernel)⟩
theorem lw_p90 : lw_okq (⟨"SerialGateModel", "payOf", "(I)I"⟩, 23) := ⟨⟨by decide +kernel, by decide +kernel⟩, List.mem_of_getElem? (i := 1513) (by decide +kernel), List.mem_of_getElem? (i := 1857) (by decide +kernel), List.mem_of_getElem? (i := 1858) (by decide +kernel)⟩
theorem lw_p91 : lw_okq (⟨"SerialGateModel", "isSafe", "(I)Z"⟩, 23) := ⟨⟨by decide +kernel, by decide +kernel⟩, List.mem_of_getElem? (i := 1513) (by decide +kernel), List.mem_of_getElem? (i := 1861) (by decide +kernel), List.mem_of_getElem? (i := 1862) (by decide +kernel)⟩
theorem lw_p92 : lw_okq (⟨"SerialGateModel", "isOnly", "(I)Z"⟩, 23) := ⟨⟨by decide +kernel, by decide +kernel⟩, List.mem_of_getElem? (i := 1513) (by decide +kernel), List.mem_of_getElem? (i := 1865) (by decide +kernel), List.mem_of_getElem? (i := 1866) (by decide +kernel)⟩
theorem lw_p93 : lw_okq (⟨"SerialGateModel", "noClient", "(I)Z"⟩, 23) := ⟨⟨by decide +kernel, by decide +kernel⟩, List.mem_of_getElem? (i := 1513) (by decide +kernel), List.mem_of_getElem? (i := 1884) (by decide +kernel), List.mem_of_getElem? (i := 1885) (by decide +kernel)⟩
theorem lw_p94 : lw_okq (⟨"SerialGateModel", "slotOf", "(I)I"⟩, 23) := ⟨⟨by decide +kernel, by decide +kernel⟩, List.mem_of_getElem? (i := 1513) (by decide +kernel), List.mem_of_getElem? (i := 1888) (by decide +kernel), List.mem_of_getElem? (i := 1889) (by decide +kernel)⟩
theorem lw_p95 : lw_okq (⟨"SerialGateModel", "stepOf", "(I)I"⟩, 23) := ⟨⟨by decide +kernel, by decide +kernel⟩, List.mem_of_getElem? (i := 1513) (by decide +kernel), List.mem_of_getElem? (i := 1892) (by decide +kernel), List.mem_of_getElem? (i := 1893) (by decide +kernel)⟩
def lw_privs_6 : List (MethodName × Nat) := [(⟨"SerialGateModel", "isSummed", "(I)V"⟩, 23), (⟨"SerialGateModel", "firstOut", "(I)I"⟩, 23), (⟨"SerialGateModel", "isDone", "(I)Z"⟩, 23), (⟨"SerialGateModel", "inOf", "(I)I"⟩, 23), (⟨"SerialGateModel", "blameOf", "(I)I"⟩, 23), (⟨"SerialGateModel", "sumOf", "(II)I"⟩, 23), (⟨"SerialGateModel", "holdsLine", "(II)Z"⟩, 23), (⟨"SerialGateModel", "factOf", "(III)I"⟩, 23), (⟨"SerialGateModel", "ofClient", "(II)I"⟩, 23), (⟨"SerialGateModel", "isPivot", "(I)Z"⟩, 23), (⟨"SerialGateModel", "payOf", "(I)I"⟩, 23), (⟨"SerialGateModel", "isSafe", "(I)Z"⟩, 23), (⟨"SerialGateModel", "isOnly", "(I)Z"⟩, 23), (⟨"SerialGateModel", "noClient", "(I)Z"⟩, 23), (⟨"SerialGateModel", "slotOf", "(I)I"⟩, 23), (⟨"SerialGateModel", "stepOf", "(I)I"⟩, 23)]
theorem lw_r6 : ∀ q ∈ lw_privs_6, lw_okq q := List.forall_mem_cons.mpr ⟨lw_p80, List.forall_mem_cons.mpr ⟨lw_p81, List.forall_mem_cons.mpr ⟨lw_p82, List.forall_mem_cons.mpr ⟨lw_p83, List.forall_mem_cons.mpr ⟨lw_p84, List.forall_mem_cons.mpr ⟨lw_p85, List.forall_mem_cons.mpr ⟨lw_p86, List.forall_mem_cons.mpr ⟨lw_p87, List.forall_mem_cons.mpr ⟨lw_p88, List.forall_mem_cons.mpr ⟨lw_p89, List.forall_mem_cons.mpr ⟨lw_p90, List.forall_mem_cons.mpr ⟨lw_p91, List.forall_mem_cons.mpr ⟨lw_p92, List.forall_mem_cons.mpr ⟨lw_p93, List.forall_mem_cons.mpr ⟨lw_p94, List.forall_mem_cons.mpr ⟨lw_p95, fun _ h => absurd h List.not_mem_nil⟩⟩⟩⟩⟩⟩⟩⟩⟩⟩⟩⟩⟩⟩⟩⟩
theorem lw_p96 : lw_okq (⟨"SerialGateModel", "laysRounds", "()V"⟩, 23) := ⟨⟨by decide +kernel, by decide +kernel⟩, List.mem_of_getElem? (i := 1513) (by decide +kernel), List.mem_of_getElem? (i := 1900) (by decide +kernel), List.mem_of_getElem? (i := 1901) (by decide +kernel)⟩
theorem lw_p97 : lw_okq (⟨"SerialGateModel", "areRounds", "(II)Z"⟩, 23) := ⟨⟨by decide +kernel, by decide +kernel⟩, List.mem_of_getElem? (i := 1513) (by decide +kernel), List.mem_of_getElem? (i := 1904) (by decide +kernel), List.mem_of_getElem? (i := 1905) (by decide +kernel)⟩
theorem lw_p98 : lw_okq (⟨"SerialGateModel", "doClash", "(II)Z"⟩, 23) := ⟨⟨by decide +kernel, by decide +kernel⟩, List.mem_of_getElem? (i := 1513) (by decide +kernel), List.mem_of_getElem? (i := 1908) (by decide +kernel), List.mem_of_getElem? (i := 1909) (by decide +kernel)⟩
theorem lw_p99 : lw_okq (⟨"SerialGateModel", "usedBy", "(I)I"⟩, 23) := ⟨⟨by decide +kernel, by decide +kernel⟩, List.mem_of_getElem? (i := 1513) (by decide +kernel), List.mem_of_getElem? (i := 1912) (by decide +kernel), List.mem_of_getElem? (i := 1913) (by decide +kernel)⟩
theorem lw_p100 : lw_okq (⟨"SerialGateModel", "doneOfAll", "()I"⟩, 23) := ⟨⟨by decide +kernel, by decide +kernel⟩, List.mem_of_getElem? (i := 1513) (by decide +kernel), List.mem_of_getElem? (i := 1916) (by decide +kernel), List.mem_of_getElem? (i := 1917) (by decide +kernel)⟩
theorem lw_p101 : lw_okq (⟨"SerialGateModel", "remembers", "()V"⟩, 23) := ⟨⟨by decide +kernel, by decide +kernel⟩, List.mem_of_getElem? (i := 1513) (by decide +kernel), List.mem_of_getElem? (i := 1924) (by decide +kernel), List.mem_of_getElem? (i := 1925) (by decide +kernel)⟩
theorem lw_p102 : lw_okq (⟨"SerialGateModel", "goesOn", "(I)I"⟩, 23) := ⟨⟨by decide +kernel, by decide +kernel⟩, List.mem_of_getElem? (i := 1513) (by decide +kernel), List.mem_of_getElem? (i := 1928) (by decide +kernel), List.mem_of_getElem? (i := 1929) (by decide +kernel)⟩
theorem lw_p103 : lw_okq (⟨"SerialGateModel", "tick", "()I"⟩, 23) := ⟨⟨by decide +kernel, by decide +kernel⟩, List.mem_of_getElem? (i := 1513) (by decide +kernel), List.mem_of_getElem? (i := 1932) (by decide +kernel), List.mem_of_getElem? (i := 1933) (by decide +kernel)⟩
theorem lw_p104 : lw_okq (⟨"SerialGateModel", "drawn", "(I)I"⟩, 23) := ⟨⟨by decide +kernel, by decide +kernel⟩, List.mem_of_getElem? (i := 1513) (by decide +kernel), List.mem_of_getElem? (i := 1936) (by decide +kernel), List.mem_of_getElem? (i := 1937) (by decide +kernel)⟩
theorem lw_p105 : lw_okq (⟨"SerialGateModel", "begins", "(I)I"⟩, 23) := ⟨⟨by decide +kernel, by decide +kernel⟩, List.mem_of_getElem? (i := 1513) (by decide +kernel), List.mem_of_getElem? (i := 1941) (by decide +kernel), List.mem_of_getElem? (i := 1942) (by decide +kernel)⟩
theorem lw_p106 : lw_okq (⟨"SerialGateModel", "reads", "(II)V"⟩, 23) := ⟨⟨by decide +kernel, by decide +kernel⟩, List.mem_of_getElem? (i := 1513) (by decide +kernel), List.mem_of_getElem? (i := 1945) (by decide +kernel), List.mem_of_getElem? (i := 1946) (by decide +kernel)⟩
theorem lw_p107 : lw_okq (⟨"SerialGateModel", "areConcurrent", "(II)Z"⟩, 23) := ⟨⟨by decide +kernel, by decide +kernel⟩, List.mem_of_getElem? (i := 1513) (by decide +kernel), List.mem_of_getElem? (i := 1949) (by decide +kernel), List.mem_of_getElem? (i := 1950) (by decide +kernel)⟩
theorem lw_p108 : lw_okq (⟨"SerialGateModel", "isAborted", "(II)V"⟩, 23) := ⟨⟨by decide +kernel, by decide +kernel⟩, List.mem_of_getElem? (i := 1513) (by decide +kernel), List.mem_of_getElem? (i := 1953) (by decide +kernel), List.mem_of_getElem? (i := 1954) (by decide +kernel)⟩
theorem lw_p109 : lw_okq (⟨"SerialGateModel", "areMet", "()V"⟩, 23) := ⟨⟨by decide +kernel, by decide +kernel⟩, List.mem_of_getElem? (i := 1513) (by decide +kernel), List.mem_of_getElem? (i := 1957) (by decide +kernel), List.mem_of_getElem? (i := 1958) (by decide +kernel)⟩
theorem lw_p110 : lw_okq (⟨"SerialGateModel", "aheadOf", "(I)I"⟩, 23) := ⟨⟨by decide +kernel, by decide +kernel⟩, List.mem_of_getElem? (i := 1513) (by decide +kernel), List.mem_of_getElem? (i := 1961) (by decide +kernel), List.mem_of_getElem? (i := 1962) (by decide +kernel)⟩
theorem lw_p111 : lw_okq (⟨"SerialGateModel", "victimOf", "(II)I"⟩, 23) := ⟨⟨by decide +kernel, by decide +kernel⟩, List.mem_of_getElem? (i := 1513) (by decide +kernel), List.mem_of_getElem? (i := 1965) (by decide +kernel), List.mem_of_getElem? (i := 1966) (by decide +kernel)⟩
def lw_privs_7 : List (MethodName × Nat) := [(⟨"SerialGateModel", "laysRounds", "()V"⟩, 23), (⟨"SerialGateModel", "areRounds", "(II)Z"⟩, 23), (⟨"SerialGateModel", "doClash", "(II)Z"⟩, 23), (⟨"SerialGateModel", "usedBy", "(I)I"⟩, 23), (⟨"SerialGateModel", "doneOfAll", "()I"⟩, 23), (⟨"SerialGateModel", "remembers", "()V"⟩, 23), (⟨"SerialGateModel", "goesOn", "(I)I"⟩, 23), (⟨"SerialGateModel", "tick", "()I"⟩, 23), (⟨"SerialGateModel", "drawn", "(I)I"⟩, 23), (⟨"SerialGateModel", "begins", "(I)I"⟩, 23), (⟨"SerialGateModel", "reads", "(II)V"⟩, 23), (⟨"SerialGateModel", "areConcurrent", "(II)Z"⟩, 23), (⟨"SerialGateModel", "isAborted", "(II)V"⟩, 23), (⟨"SerialGateModel", "areMet", "()V"⟩, 23), (⟨"SerialGateModel", "aheadOf", "(I)I"⟩, 23), (⟨"SerialGateModel", "victimOf", "(II)I"⟩, 23)]
theorem lw_r7 : ∀ q ∈ lw_privs_7, lw_okq q := List.forall_mem_cons.mpr ⟨lw_p96, List.forall_mem_cons.mpr ⟨lw_p97, List.forall_mem_cons.mpr ⟨lw_p98, List.forall_mem_cons.mpr ⟨lw_p99, List.forall_mem_cons.mpr ⟨lw_p100, List.forall_mem_cons.mpr ⟨lw_p101, List.forall_mem_cons.mpr ⟨lw_p102, List.forall_mem_cons.mpr ⟨lw_p103, List.forall_mem_cons.mpr ⟨lw_p104, List.forall_mem_cons.mpr ⟨lw_p105, List.forall_mem_cons.mpr ⟨lw_p106, List.forall_mem_cons.mpr ⟨lw_p107, List.forall_mem_cons.mpr ⟨lw_p108, List.forall_mem_cons.mpr ⟨lw_p109, List.forall_mem_cons.mpr ⟨lw_p110, List.forall_mem_cons.mpr ⟨lw_p111, fun _ h => absurd h List.not_mem_nil⟩⟩⟩⟩⟩⟩⟩⟩⟩⟩⟩⟩⟩⟩⟩⟩
theorem lw_p112 : lw_okq (⟨"SerialGateModel", "hasToWait", "(II)Z"⟩, 23) := ⟨⟨by decide +kernel, by decide +kernel⟩, List.mem_of_getElem? (i := 1513) (by decide +kernel), List.mem_of_getElem? (i := 1969) (by decide +kernel), List.mem_of_getElem? (i := 1970) (by decide +kernel)⟩
theorem lw_p113 : lw_okq (⟨"SerialGateModel", "writes", "(II)V"⟩, 23) := ⟨⟨by decide +kernel, by decide +kernel⟩, List.mem_of_getElem? (i := 1513) (by decide +kernel), List.mem_of_getElem? (i := 1973) (by decide +kernel), List.mem_of_getElem? (i := 1974) (by decide +kernel)⟩
theorem lw_p114 : lw_okq (⟨"SerialGateModel", "commits", "(I)I"⟩, 23) := ⟨⟨by decide +kernel, by decide +kernel⟩, List.mem_of_getElem? (i := 1513) (by decide +kernel), List.mem_of_getElem? (i := 1977) (by decide +kernel), List.mem_of_getElem? (i := 1978) (by decide +kernel)⟩
theorem lw_p115 : lw_okq (⟨"SerialGateModel", "isHistory", "(I)V"⟩, 23) := ⟨⟨by decide +kernel, by decide +kernel⟩, List.mem_of_getElem? (i := 1513) (by decide +kernel), List.mem_of_getElem? (i := 1981) (by decide +kernel), List.mem_of_getElem? (i := 1982) (by decide +kernel)⟩
theorem lw_p116 : lw_okq (⟨"SerialGateModel", "storyAt", "(I)I"⟩, 23) := ⟨⟨by decide +kernel, by decide +kernel⟩, List.mem_of_getElem? (i := 1513) (by decide +kernel), List.mem_of_getElem? (i := 1985) (by decide +kernel), List.mem_of_getElem? (i := 1986) (by decide +kernel)⟩
theorem lw_p117 : lw_okq (⟨"SerialGateModel", "noBoth", "(II)Z"⟩, 23) := ⟨⟨by decide +kernel, by decide +kernel⟩, List.mem_of_getElem? (i := 1513) (by decide +kernel), List.mem_of_getElem? (i := 1997) (by decide +kernel), List.mem_of_getElem? (i := 1998) (by decide +kernel)⟩
theorem lw_p118 : lw_okq (⟨"SerialGateModel", "notRunning", "(I)Z"⟩, 23) := ⟨⟨by decide +kernel, by decide +kernel⟩, List.mem_of_getElem? (i := 1513) (by decide +kernel), List.mem_of_getElem? (i := 2009) (by decide +kernel), List.mem_of_getElem? (i := 2010) (by decide +kernel)⟩
theorem lw_p119 : lw_okq (⟨"SerialGateModel", "keepsAll", "()V"⟩, 23) := ⟨⟨by decide +kernel, by decide +kernel⟩, List.mem_of_getElem? (i := 1513) (by decide +kernel), List.mem_of_getElem? (i := 2025) (by decide +kernel), List.mem_of_getElem? (i := 2026) (by decide +kernel)⟩
theorem lw_p120 : lw_okq (⟨"SerialGateModel", "bringsBack", "()V"⟩, 23) := ⟨⟨by decide +kernel, by decide +kernel⟩, List.mem_of_getElem? (i := 1513) (by decide +kernel), List.mem_of_getElem? (i := 2029) (by decide +kernel), List.mem_of_getElem? (i := 2030) (by decide +kernel)⟩
theorem lw_p121 : lw_okq (⟨"SerialGateModel", "isCut", "(I)Z"⟩, 23) := ⟨⟨by decide +kernel, by decide +kernel⟩, List.mem_of_getElem? (i := 1513) (by decide +kernel), List.mem_of_getElem? (i := 2041) (by decide +kernel), List.mem_of_getElem? (i := 2042) (by decide +kernel)⟩
theorem lw_p122 : lw_okq (⟨"SerialGateModel", "ofStory", "(II)I"⟩, 23) := ⟨⟨by decide +kernel, by decide +kernel⟩, List.mem_of_getElem? (i := 1513) (by decide +kernel), List.mem_of_getElem? (i := 2049) (by decide +kernel), List.mem_of_getElem? (i := 2050) (by decide +kernel)⟩
theorem lw_p123 : lw_okq (⟨"SerialGateModel", "versionIn", "(IIZ)I"⟩, 23) := ⟨⟨by decide +kernel, by decide +kernel⟩, List.mem_of_getElem? (i := 1513) (by decide +kernel), List.mem_of_getElem? (i := 2057) (by decide +kernel), List.mem_of_getElem? (i := 2058) (by decide +kernel)⟩
theorem lw_p124 : lw_okq (⟨"SerialGateModel", "nextRow", "(I)I"⟩, 23) := ⟨⟨by decide +kernel, by decide +kernel⟩, List.mem_of_getElem? (i := 1513) (by decide +kernel), List.mem_of_getElem? (i := 2065) (by decide +kernel), List.mem_of_getElem? (i := 2066) (by decide +kernel)⟩
theorem lw_p125 : lw_okq (⟨"SerialGateModel", "mustBeAhead", "(II)Z"⟩, 23) := ⟨⟨by decide +kernel, by decide +kernel⟩, List.mem_of_getElem? (i := 1513) (by decide +kernel), List.mem_of_getElem? (i := 2069) (by decide +kernel), List.mem_of_getElem? (i := 2070) (by decide +kernel)⟩
theorem lw_p126 : lw_okq (⟨"SerialGateModel", "noTwo", "(II)Z"⟩, 23) := ⟨⟨by decide +kernel, by decide +kernel⟩, List.mem_of_getElem? (i := 1513) (by decide +kernel), List.mem_of_getElem? (i := 2077) (by decide +kernel), List.mem_of_getElem? (i := 2078) (by decide +kernel)⟩
theorem lw_p127 : lw_okq (⟨"SerialGateModel", "noneClash", "(I)Z"⟩, 23) := ⟨⟨by decide +kernel, by decide +kernel⟩, List.mem_of_getElem? (i := 1513) (by decide +kernel), List.mem_of_getElem? (i := 2085) (by decide +kernel), List.mem_of_getElem? (i := 2086) (by decide +kernel)⟩
def lw_privs_8 : List (MethodName × Nat) := [(⟨"SerialGateModel", "hasToWait", "(II)Z"⟩, 23), (⟨"SerialGateModel", "writes", "(II)V"⟩, 23), (⟨"SerialGateModel", "commits", "(I)I"⟩, 23), (⟨"SerialGateModel", "isHistory", "(I)V"⟩, 23), (⟨"SerialGateModel", "storyAt", "(I)I"⟩, 23), (⟨"SerialGateModel", "noBoth", "(II)Z"⟩, 23), (⟨"SerialGateModel", "notRunning", "(I)Z"⟩, 23), (⟨"SerialGateModel", "keepsAll", "()V"⟩, 23), (⟨"SerialGateModel", "bringsBack", "()V"⟩, 23), (⟨"SerialGateModel", "isCut", "(I)Z"⟩, 23), (⟨"SerialGateModel", "ofStory", "(II)I"⟩, 23), (⟨"SerialGateModel", "versionIn", "(IIZ)I"⟩, 23), (⟨"SerialGateModel", "nextRow", "(I)I"⟩, 23), (⟨"SerialGateModel", "mustBeAhead", "(II)Z"⟩, 23), (⟨"SerialGateModel", "noTwo", "(II)Z"⟩, 23), (⟨"SerialGateModel", "noneClash", "(I)Z"⟩, 23)]
theorem lw_r8 : ∀ q ∈ lw_privs_8, lw_okq q := List.forall_mem_cons.mpr ⟨lw_p112, List.forall_mem_cons.mpr ⟨lw_p113, List.forall_mem_cons.mpr ⟨lw_p114, List.forall_mem_cons.mpr ⟨lw_p115, List.forall_mem_cons.mpr ⟨lw_p116, List.forall_mem_cons.mpr ⟨lw_p117, List.forall_mem_cons.mpr ⟨lw_p118, List.forall_mem_cons.mpr ⟨lw_p119, List.forall_mem_cons.mpr ⟨lw_p120, List.forall_mem_cons.mpr ⟨lw_p121, List.forall_mem_cons.mpr ⟨lw_p122, List.forall_mem_cons.mpr ⟨lw_p123, List.forall_mem_cons.mpr ⟨lw_p124, List.forall_mem_cons.mpr ⟨lw_p125, List.forall_mem_cons.mpr ⟨lw_p126, List.forall_mem_cons.mpr ⟨lw_p127, fun _ h => absurd h List.not_mem_nil⟩⟩⟩⟩⟩⟩⟩⟩⟩⟩⟩⟩⟩⟩⟩⟩
theorem lw_p128 : lw_okq (⟨"SerialGateModel", "isCover", "(I)Z"⟩, 23) := ⟨⟨by decide +kernel, by decide +kernel⟩, List.mem_of_getElem? (i := 1513) (by decide +kernel), List.mem_of_getElem? (i := 2097) (by decide +kernel), List.mem_of_getElem? (i := 2098) (by decide +kernel)⟩
theorem lw_p129 : lw_okq (⟨"SerialGateModel", "areTold", "()Z"⟩, 23) := ⟨⟨by decide +kernel, by decide +kernel⟩, List.mem_of_getElem? (i := 1513) (by decide +kernel), List.mem_of_getElem? (i := 2105) (by decide +kernel), List.mem_of_getElem? (i := 2106) (by decide +kernel)⟩
theorem lw_p130 : lw_okq (⟨"SerialGateModel", "thatFit", "(I)I"⟩, 23) := ⟨⟨by decide +kernel, by decide +kernel⟩, List.mem_of_getElem? (i := 1513) (by decide +kernel), List.mem_of_getElem? (i := 2109) (by decide +kernel), List.mem_of_getElem? (i := 2110) (by decide +kernel)⟩
theorem lw_p131 : lw_okq (⟨"SerialGateModel", "wrongRows", "(I)I"⟩, 23) := ⟨⟨by decide +kernel, by decide +kernel⟩, List.mem_of_getElem? (i := 1513) (by decide +kernel), List.mem_of_getElem? (i := 2113) (by decide +kernel), List.mem_of_getElem? (i := 2114) (by decide +kernel)⟩
theorem lw_p132 : lw_okq (⟨"SerialGateModel", "does", "(II)I"⟩, 23) := ⟨⟨by decide +kernel, by decide +kernel⟩, List.mem_of_getElem? (i := 1513) (by decide +kernel), List.mem_of_getElem? (i := 2117) (by decide +kernel), List.mem_of_getElem? (i := 2118) (by decide +kernel)⟩
theorem lw_p133 : lw_okq (⟨"SerialGateModel", "laysPairs", "()V"⟩, 23) := ⟨⟨by decide +kernel, by decide +kernel⟩, List.mem_of_getElem? (i := 1513) (by decide +kernel), List.mem_of_getElem? (i := 2134) (by decide +kernel), List.mem_of_getElem? (i := 2135) (by decide +kernel)⟩
theorem lw_p134 : lw_okq (⟨"SerialGateModel", "pairedBy", "(II)I"⟩, 23) := ⟨⟨by decide +kernel, by decide +kernel⟩, List.mem_of_getElem? (i := 1513) (by decide +kernel), List.mem_of_getElem? (i := 2138) (by decide +kernel), List.mem_of_getElem? (i := 2139) (by decide +kernel)⟩
theorem lw_p135 : lw_okq (⟨"SerialGateModel", "goerHas", "(IIII)I"⟩, 23) := ⟨⟨by decide +kernel, by decide +kernel⟩, List.mem_of_getElem? (i := 1513) (by decide +kernel), List.mem_of_getElem? (i := 2146) (by decide +kernel), List.mem_of_getElem? (i := 2147) (by decide +kernel)⟩
theorem lw_p136 : lw_okq (⟨"SerialGateModel", "amountOf", "(II)I"⟩, 23) := ⟨⟨by decide +kernel, by decide +kernel⟩, List.mem_of_getElem? (i := 1513) (by decide +kernel), List.mem_of_getElem? (i := 2159) (by decide +kernel), List.mem_of_getElem? (i := 2160) (by decide +kernel)⟩
theorem lw_p137 : lw_okq (⟨"SerialGateModel", "usersOf", "(I)I"⟩, 23) := ⟨⟨by decide +kernel, by decide +kernel⟩, List.mem_of_getElem? (i := 1513) (by decide +kernel), List.mem_of_getElem? (i := 2175) (by decide +kernel), List.mem_of_getElem? (i := 2176) (by decide +kernel)⟩
theorem lw_p138 : lw_okq (⟨"SerialGateModel", "ofLog", "(II)I"⟩, 23) := ⟨⟨by decide +kernel, by decide +kernel⟩, List.mem_of_getElem? (i := 1513) (by decide +kernel), List.mem_of_getElem? (i := 2198) (by decide +kernel), List.mem_of_getElem? (i := 2199) (by decide +kernel)⟩
theorem lw_p139 : lw_okq (⟨"SerialGateModel", "edges", "()I"⟩, 23) := ⟨⟨by decide +kernel, by decide +kernel⟩, List.mem_of_getElem? (i := 1513) (by decide +kernel), List.mem_of_getElem? (i := 2214) (by decide +kernel), List.mem_of_getElem? (i := 2215) (by decide +kernel)⟩
theorem lw_p140 : lw_okq (⟨"SerialGateModel", "retriesOfAll", "()I"⟩, 23) := ⟨⟨by decide +kernel, by decide +kernel⟩, List.mem_of_getElem? (i := 1513) (by decide +kernel), List.mem_of_getElem? (i := 2218) (by decide +kernel), List.mem_of_getElem? (i := 2219) (by decide +kernel)⟩
def lw_privs_9 : List (MethodName × Nat) := [(⟨"SerialGateModel", "isCover", "(I)Z"⟩, 23), (⟨"SerialGateModel", "areTold", "()Z"⟩, 23), (⟨"SerialGateModel", "thatFit", "(I)I"⟩, 23), (⟨"SerialGateModel", "wrongRows", "(I)I"⟩, 23), (⟨"SerialGateModel", "does", "(II)I"⟩, 23), (⟨"SerialGateModel", "laysPairs", "()V"⟩, 23), (⟨"SerialGateModel", "pairedBy", "(II)I"⟩, 23), (⟨"SerialGateModel", "goerHas", "(IIII)I"⟩, 23), (⟨"SerialGateModel", "amountOf", "(II)I"⟩, 23), (⟨"SerialGateModel", "usersOf", "(I)I"⟩, 23), (⟨"SerialGateModel", "ofLog", "(II)I"⟩, 23), (⟨"SerialGateModel", "edges", "()I"⟩, 23), (⟨"SerialGateModel", "retriesOfAll", "()I"⟩, 23)]
theorem lw_r9 : ∀ q ∈ lw_privs_9, lw_okq q := List.forall_mem_cons.mpr ⟨lw_p128, List.forall_mem_cons.mpr ⟨lw_p129, List.forall_mem_cons.mpr ⟨lw_p130, List.forall_mem_cons.mpr ⟨lw_p131, List.forall_mem_cons.mpr ⟨lw_p132, List.forall_mem_cons.mpr ⟨lw_p133, List.forall_mem_cons.mpr ⟨lw_p134, List.forall_mem_cons.mpr ⟨lw_p135, List.forall_mem_cons.mpr ⟨lw_p136, List.forall_mem_cons.mpr ⟨lw_p137, List.forall_mem_cons.mpr ⟨lw_p138, List.forall_mem_cons.mpr ⟨lw_p139, List.forall_mem_cons.mpr ⟨lw_p140, fun _ h => absurd h List.not_mem_nil⟩⟩⟩⟩⟩⟩⟩⟩⟩⟩⟩⟩⟩
def lw_privs : List (MethodName × Nat) := lw_privs_1 ++ (lw_privs_2 ++ (lw_privs_3 ++ (lw_privs_4 ++ (lw_privs_5 ++ (lw_privs_6 ++ (lw_privs_7 ++ (lw_privs_8 ++ (lw_privs_9))))))))
def lw_tbl : List Cond := k2_sels lw_privs ++ tables_1
theorem lw_privs_ok : ∀ q ∈ lw_privs, lw_okq q := by
  show ∀ q ∈ lw_privs_1 ++ (lw_privs_2 ++ (lw_privs_3 ++ (lw_privs_4 ++ (lw_privs_5 ++ (lw_privs_6 ++ (lw_privs_7 ++ (lw_privs_8 ++ (lw_privs_9)))))))), lw_okq q
  exact List.forall_mem_append.mpr ⟨lw_r1, List.forall_mem_append.mpr ⟨lw_r2, List.forall_mem_append.mpr ⟨lw_r3, List.forall_mem_append.mpr ⟨lw_r4, List.forall_mem_append.mpr ⟨lw_r5, List.forall_mem_append.mpr ⟨lw_r6, List.forall_mem_append.mpr ⟨lw_r7, List.forall_mem_append.mpr ⟨lw_r8, lw_r9⟩⟩⟩⟩⟩⟩⟩⟩
end
section
/-! ===== BEGIN words of one list among another's, by their places ===== -/
theorem goodIn_r {big : List Cond} (ws : List Cond) (ps : List Nat) (hp : ws = ps.filterMap (fun i => big[i]?)) (h : ws.all goodWord = true) : GoodIn big ws := by
  intro w hw
  have h1 := List.all_eq_true.mp h w hw
  rw [hp] at hw
  obtain ⟨i, -, hi⟩ := List.mem_filterMap.mp hw
  have hm : w ∈ big := by first | exact List.mem_of_getElem? hi | exact List.getElem?_mem hi
  exact ⟨hm, good_of_word h1⟩
theorem goodIn_app {big a b : List Cond} (ha : GoodIn big a) (hb : GoodIn big b) : GoodIn big (a ++ b) := fun w h => (List.mem_append.mp h).elim (ha w) (hb w)
theorem goodIn_ca {big a b : List Cond} {c : Cond} (ha : GoodIn big (c :: a)) (hb : GoodIn big b) : GoodIn big (c :: (a ++ b)) := fun w h => (List.mem_cons.mp h).elim (fun e => ha w (List.mem_cons.mpr (Or.inl e))) (fun h => (List.mem_append.mp h).elim (fun h => ha w (List.mem_cons.mpr (Or.inr h))) (hb w))
theorem goodIn_sub {big ws : List Cond} (hm : ∀ w ∈ ws, w ∈ big) (h : ws.all goodWord = true) : GoodIn big ws := fun w hw => ⟨hm w hw, good_of_word (List.all_eq_true.mp h w hw)⟩
/-! ===== END ===== -/

/-! ===== BEGIN exceptions that leave a method, and their catching by the caller (launches without stack traces) ===== -/
section VXA
/-! The laws vx_back, vx_callV, vx_callS, vx_callSW, vx_throw0, vx_throwS follow proofs of the library, with one case more: JvmDerived/Free/Laws.lean (Back.of_free), Shelf42/LK1.lean (callV, callS), Shelf/KitTraced.lean (throwNew0V, throwNewS). -/
/-- where a method has thrown q: the class by its name, the cell, what was written, the world -/
def vx_T (XC : String → State → State → Prop) (st : State) (q : Addr) (t : State) (mc ms : Nat) (free : Addr → Prop) : Prop :=
  ∃ (E : String) (ce : Cell) (L : List Loc), XC E st t ∧ t.heap[q]? = some ce ∧ ce.vm = .none ∧ st.vm.findClass E = some ce.cls ∧ st.WarmedH t.vm ∧ st.sameButNew ({ t with vm := st.vm } : State) L mc ms ∧ ∀ z ∈ L, free z.base
def vx_Q (Qc : Array Value → State → Outcome → State → Prop) (XC : String → State → State → Prop) (mc ms : Nat) (free : Addr → Prop) : Array Value → State → Outcome → State → Prop := fun a st o t =>
  (Qc a st o t ∧ ∃ L, FrameEnd st o t L mc ms ∧ ∀ q ∈ L, free q.base) ∨ ∃ q, o = .threw q ∧ vx_T XC st q t mc ms free
/-- a callee that returns or throws -/
def vx_Met (l : Launch) (y : MethodName) (ws : List Cond) (rm : Room) (Pc : Array Value → State → Prop) (Qc : Array Value → State → Outcome → State → Prop) (XC : String → State → State → Prop) (mc ms : Nat) (free : Addr → Prop) : Prop :=
  MetFree l y (headSpec ws rm) Pc (fun _ _ _ _ _ => True) (vx_Q Qc XC mc ms free)
def vx_Post (XC : String → State → State → Prop) (mc ms : Nat) (free : Addr → Prop) : Pt → Array Value → Addr → Pt → Prop := fun A a q B =>
  ∃ (g : JFrame) (mk : MethodId) (t : State) (L : List Loc) (E : String) (ce : Cell), B.U.heap = t.heap ∧ B.U.vm = t.vm ∧ XC E (A.U.calling g mk a) t ∧ t.heap[q]? = some ce ∧ ce.vm = .none ∧ A.U.vm.findClass E = some ce.cls ∧ B.locs = A.locs ++ L ∧ (∀ z ∈ L, free z.base) ∧ B.cells = A.cells + mc ∧ B.slots = A.slots + ms
def vx_Back (l : Launch) (R : Room) (p : Program) (e : Env) (below : List Frame) (s : State) (sargs : Array Value) (y : MethodName) (len W9 : Nat)
    (Pre : Pt → Array Value → Prop) (Post : Pt → Array Value → Option Value → Pt → Prop) (PostX : Pt → Array Value → Addr → Pt → Prop) : Prop :=
  ∀ (m : MethodId) (meth : Method) (c : Code) (A : Pt) (g : JFrame) (ig : Instr) (mk : MethodId) (a : Array Value),
    Stand p l e R s m sargs below meth c A.U A.locs A.cells A.slots → g.method = m → g.locals.size = c.maxLocals → decode c.code g.pc = .ok (ig, len) →
    2 * g.monitorRoom + (g.stack.map fun v => v.category).sum ≤ W9 → A.U.methodNamed? y = some mk → Pre A a →
    (∃ (v : Option Value) (B : Pt), Stand p l e R s m sargs below meth c B.U B.locs B.cells B.slots ∧ Post A a v B ∧
      Steps p.tables e below (doInvoke e (A.U.setTop g) [] mk a).1 (B.U.setTop { g with pc := g.pc + len, stack := v.toList ++ g.stack })) ∨
    (∃ (q : Addr) (B : Pt), Stand p l e R s m sargs below meth c B.U B.locs B.cells B.slots ∧ PostX A a q B ∧
      Steps p.tables e below (doInvoke e (A.U.setTop g) [] mk a).1 ((B.U.setTop g).pushFrame (.throwing q)))
section Payer
variable {l : Launch} {R : Room} {p : Program} {e : Env} {below : List Frame} {s : State} {sargs : Array Value} {y : MethodName} {len W9 : Nat}
theorem vx_back {ws : List Cond} {rm : Room} {Pc : Array Value → State → Prop} {Qc : Array Value → State → Outcome → State → Prop} {XC : String → State → State → Prop} {mc ms : Nat} {free : Addr → Prop} {bytes : ByteArray} {maxL : Nat} {ret : Option FieldType}
    (hM : vx_Met l y ws rm Pc Qc XC mc ms free) (hblind : FrameBlind Pc) (hrc : rm.cells = mc) (hrs : rm.slots = ms)
    (hframes : rm.frames + 1 ≤ R.frames) (hlocals : W9 + (maxL + 11) + rm.locals ≤ R.locals)
    (hws : ∀ w ∈ ws, ∀ a' U, s.WarmedH U.vm → w.before a' U = true) (hcode : Cond.code y bytes maxL ret ∈ ws) (hinit : ∀ a' U, s.WarmedH U.vm → (Cond.initialized y.cls).before a' U = true) :
    vx_Back l R p e below s sargs y len W9 (PreOf R mc ms Pc) (PostOf Qc mc ms free) (vx_Post XC mc ms free) := by
  intro m meth c A g ig mk a X hg hsize hdg hW hn hp
  have h1 : (headSpec ws rm).pre.before a A.U = true := atoms_intro fun w hw => hws w hw _ _ X.warmed
  have h2 : (Cond.code y bytes maxL ret).before a A.U = true := hws _ hcode _ _ X.warmed
  have h3 : (Cond.initialized y.cls).before a A.U = true := hinit _ _ X.warmed
  have h4 : A.cells + (headSpec ws rm).room.cells ≤ R.cells := by rw [show (headSpec ws rm).room.cells = mc from hrc]; exact hp.1
  have h5 : A.slots + (headSpec ws rm).room.slots ≤ R.slots := by rw [show (headSpec ws rm).room.slots = ms from hrs]; exact hp.2.1
  have hPc : Pc a (A.U.calling g mk a) := hblind _ _ _ _ hp.2.2
  obtain ⟨U, Ls, c0, s0⟩ := A
  dsimp only [Pt.U, Pt.locs, Pt.cells, Pt.slots] at h1 h2 h3 h4 h5 X hn hPc ⊢
  obtain ⟨methY, cY, hmY, hcY, -, hlY, -, -, -, -⟩ := Cond.code_spec hn h2
  obtain ⟨kY, hkY, -⟩ := className_of_methodNamed hn
  have hinitY : kY.init = .initialized := Cond.initialized_spec (findClass_of_methodNamed hn) hkY h3
  have h : At U g.method c below := by rw [hg]; exact X.here
  have hlocals9 : W9 + (maxL + 11) + (headSpec ws rm).room.locals ≤ R.locals := hlocals
  have happ : (headSpec ws rm).appliesLoose y e.platform (U.calling g mk a) = true :=
    Spec.appliesLoose_calling (g := g) h hdg hn hkY hinitY
      (X.room_calling (g := g) (R' := (headSpec ws rm).room) hsize hmY hcY hframes (by rw [hlY]; omega) h4 h5) h1
  obtain ⟨mid, hmid⟩ := h.above
  have hfr : (U.setTop g).frames = (.java g :: mid) ++ below := by rw [State.frames_setTop' g h.top, hmid]; rfl
  obtain ⟨o, s₂, hsteps, -, hend, hq⟩ := Steps.callFree hM p X.admits X.cas X.clock (acts := []) hfr happ hPc trivial
  have hq' : vx_Q Qc XC mc ms free a (U.calling g mk a) o s₂ := hq
  rw [State.frames_setTop' g h.top] at hend
  obtain ⟨g₀, hg0⟩ := Option.isSome_iff_exists.mp h.top
  obtain ⟨r, hr⟩ := State.topJava?_eq_some.mp hg0
  have hr' : (({ U with heap := s₂.heap, slotsUsed := s₂.slotsUsed } : State).setVm s₂.vm).frames = .java g₀ :: r := hr
  rcases hq' with ⟨hqc, L, hfe, hL⟩ | ⟨q, rfl, E, ce, L, hx, hce, hcv, hcl, hW₂, hsm, hL⟩
  · obtain ⟨⟨v, rfl⟩, hW₂, e2, q2, q3, q4, q5, q6⟩ := id hfe
    have e3 : s₂ = ({ (U.calling g mk a).setFrames s₂.frames with heap := s₂.heap, slotsUsed := s₂.slotsUsed } : State).setVm s₂.vm := by
      have : s₂ = ({ s₂ with vm := (U.calling g mk a).vm } : State).setVm s₂.vm := rfl
      rw [e2] at this
      exact this
    obtain ⟨c₂, i₂, len₂, hc₂, hd₂, hf₂⟩ := hend
    have hW' : U.WarmedH s₂.vm := hW₂
    have hcc : c₂ = c := by
      have h1 : s₂.code? g.method = U.code? g.method := by
        rw [State.code?_eq, State.code?_eq, hW'.alike.method?]
      exact Option.some.inj (hc₂.symm.trans (h1.trans h.code))
    subst hcc
    have hlen : len₂ = len := by rw [hdg] at hd₂; cases hd₂; rfl
    subst hlen
    have hs₂ : s₂ = (({ U with heap := s₂.heap, slotsUsed := s₂.slotsUsed } : State).setVm s₂.vm).setTop { g with pc := g.pc + len₂, stack := v.toList ++ g.stack } := by
      refine e3.trans ?_
      rw [hf₂, State.calling_eq h.top, State.setFrames_setFrames, State.setTop_of_frames _ hr', hr]
      rfl
    have hsame : U.sameButNew ({ U with heap := s₂.heap, slotsUsed := s₂.slotsUsed } : State) L mc ms := by
      refine ⟨?_, q2, q3, q4, q5, q6⟩
      obtain ⟨t, ht, -⟩ := State.frames_cons hr
      show ({ U with heap := s₂.heap, slotsUsed := s₂.slotsUsed } : State) = { U.setFrames U.frames with heap := s₂.heap, slotsUsed := s₂.slotsUsed }
      rw [State.setFrames_self ht]
    subst hg
    refine Or.inl ⟨v, ⟨(({ U with heap := s₂.heap, slotsUsed := s₂.slotsUsed } : State).setVm s₂.vm), Ls ++ L, c0 + mc, s0 + ms⟩,
      ⟨X.admits, X.cas, X.clock, X.frames, X.room, X.hears, X.method, X.code, (X.here.setHeapUsed s₂.heap s₂.slotsUsed).setVm hW'.alike, X.tail, State.WarmedH.trans X.warmed hW', X.limits, X.bytes, X.same.trans (hsame.setVm s.vm)⟩,
      ⟨g, mk, s₂, L, rfl, rfl, hqc, rfl, hL, rfl, rfl⟩, ?_⟩
    show Steps p.tables e below _ ((({ U with heap := s₂.heap, slotsUsed := s₂.slotsUsed } : State).setVm s₂.vm).setTop { g with pc := g.pc + len₂, stack := v.toList ++ g.stack })
    rw [← hs₂]
    exact hsteps
  · obtain ⟨e2, q2, q3, q4, q5, q6⟩ := id hsm
    have e3 : s₂ = ({ (U.calling g mk a).setFrames s₂.frames with heap := s₂.heap, slotsUsed := s₂.slotsUsed } : State).setVm s₂.vm := by
      have : s₂ = ({ s₂ with vm := (U.calling g mk a).vm } : State).setVm s₂.vm := rfl
      rw [e2] at this
      exact this
    have hf₂ : s₂.frames = .throwing q :: .java g :: U.frames.tail := hend
    have hW' : U.WarmedH s₂.vm := hW₂
    have hs₂ : s₂ = ((({ U with heap := s₂.heap, slotsUsed := s₂.slotsUsed } : State).setVm s₂.vm).setTop g).pushFrame (.throwing q) := by
      refine e3.trans ?_
      rw [hf₂, State.calling_eq h.top, State.setFrames_setFrames, State.pushFrame, State.frames_setTop _ hr', State.setTop_of_frames _ hr', State.setFrames_setFrames, hr]
      rfl
    have hsame : U.sameButNew ({ U with heap := s₂.heap, slotsUsed := s₂.slotsUsed } : State) L mc ms := by
      refine ⟨?_, q2, q3, q4, q5, q6⟩
      obtain ⟨t, ht, -⟩ := State.frames_cons hr
      show ({ U with heap := s₂.heap, slotsUsed := s₂.slotsUsed } : State) = { U.setFrames U.frames with heap := s₂.heap, slotsUsed := s₂.slotsUsed }
      rw [State.setFrames_self ht]
    subst hg
    refine Or.inr ⟨q, ⟨(({ U with heap := s₂.heap, slotsUsed := s₂.slotsUsed } : State).setVm s₂.vm), Ls ++ L, c0 + mc, s0 + ms⟩,
      ⟨X.admits, X.cas, X.clock, X.frames, X.room, X.hears, X.method, X.code, (X.here.setHeapUsed s₂.heap s₂.slotsUsed).setVm hW'.alike, X.tail, State.WarmedH.trans X.warmed hW', X.limits, X.bytes, X.same.trans (hsame.setVm s.vm)⟩,
      ⟨g, mk, s₂, L, E, ce, rfl, rfl, hx, hce, hcv, hcl, rfl, hL, rfl, rfl⟩, ?_⟩
    show Steps p.tables e below _ (((({ U with heap := s₂.heap, slotsUsed := s₂.slotsUsed } : State).setVm s₂.vm).setTop g).pushFrame (.throwing q))
    rw [← hs₂]
    exact hsteps
end Payer
section Calls
variable {p : Program} {l : Launch} {e : Env} {R : Room} {s : State} {m : MethodId} {args : Array Value} {below : List Frame} {meth : Method} {c : Code} {T : State} {locs : List Loc} {cells slots : Nat}
theorem vx_callV (X : Stand p l e R s m args below meth c T locs cells slots) (hexec : p.tables.exec = Jvm.exec) {own C : String} {index : Nat} {y : MethodName} {bytes : ByteArray} {maxL : Nat} {ret : Option FieldType}
    (hown : s.vm.findClass own = some m.cls) (hlink : (Cond.methodLink own index y).before args s = true) (hinst : (Cond.instanceMethod y).before args s = true) (hsel : (Cond.selects C y y).before args s = true)
    (hcode : (Cond.code y bytes maxL ret).before args s = true) (hy : y.cls ≠ "java/lang/invoke/MethodHandle" ∧ y.cls ≠ "java/lang/invoke/VarHandle")
    {W9 : Nat} {Pre : Pt → Array Value → Prop} {Post : Pt → Array Value → Option Value → Pt → Prop} {PostX : Pt → Array Value → Addr → Pt → Prop} (hK : vx_Back l R p e below s args y 3 W9 Pre Post PostX)
    {b : Addr} {cellB : Cell} (hcell : T.heap[b]? = some cellB) (hobj : cellB.vm.isStatics = false) (hcls : s.vm.findClass C = some cellB.cls)
    {g : JFrame} (hg : g.method = m) (hsize : g.locals.size = c.maxLocals) {argsL rest : List Value} (hlen : ∀ sig, parseMethodDescriptor y.desc = some sig → argsL.length = sig.parameters.length)
    (hstack : g.stack = argsL.reverse ++ .ref b :: rest) (hW : 2 * g.monitorRoom + (rest.map fun v => v.category).sum ≤ W9) (hdg : decode c.code g.pc = .ok (.invokevirtual index, 3))
    (hpre : ∀ vm₁, s.WarmedH vm₁ → Pre ⟨T.setVm vm₁, locs, cells, slots⟩ (Value.ref b :: argsL).toArray) :
    (∃ (v : Option Value) (vm₁ : Vm) (B : Pt), s.WarmedH vm₁ ∧ Stand p l e R s m args below meth c B.U B.locs B.cells B.slots ∧ Post ⟨T.setVm vm₁, locs, cells, slots⟩ (Value.ref b :: argsL).toArray v B ∧
      ∀ target, Steps p.tables e below (B.U.setTop { g with pc := g.pc + 3, stack := v.toList ++ rest }) target → Steps p.tables e below (T.setTop g) target) ∨
    (∃ (q : Addr) (vm₁ : Vm) (B : Pt), s.WarmedH vm₁ ∧ Stand p l e R s m args below meth c B.U B.locs B.cells B.slots ∧ PostX ⟨T.setVm vm₁, locs, cells, slots⟩ (Value.ref b :: argsL).toArray q B ∧
      Steps p.tables e below (T.setTop g) ((B.U.setTop { g with stack := rest }).pushFrame (.throwing q))) := by
  obtain ⟨mk, methM, hnamed, hmethM, hstM, habM⟩ := Cond.instanceMethod_spec hinst
  obtain ⟨methM', cM, hmethM', -, -, -, -, -, -, hsigM⟩ := Cond.code_spec hnamed hcode
  cases hmethM.symm.trans hmethM'
  obtain ⟨c2, r2, m2, q1, q2, q3, q4, kP, hkP, hkPi⟩ := Cond.selects_spec hsel
  cases hcls.symm.trans q1
  cases (State.methodFound?_of_named hnamed hy).symm.trans q2
  cases hnamed.symm.trans q3
  have hselP : selectMethod e.platform s.vm cellB.cls mk = .method mk := by rw [Launch.admits_selectMethod X.admits]; exact q4
  obtain ⟨vm₁, X₁, hstep₁⟩ := X.invokevirtual hexec hown hlink hnamed hmethM hstM hkP hkPi hy (a := b) (cell := cellB) hcell
    (fun z h => by rw [h] at hobj; cases hobj) hselP hmethM habM hkP hkPi (g := g) hg (argsL := argsL) (rest := rest) (hlen _ hsigM) hstack hdg
  rcases hK m meth c ⟨T.setVm vm₁, locs, cells, slots⟩ { g with stack := rest } (.invokevirtual index) mk (Value.ref b :: argsL).toArray X₁ hg hsize hdg hW (X₁.named hnamed) (hpre vm₁ X₁.warmed) with ⟨v, B, X', hpost, hsteps⟩ | ⟨q, B, X', hpost, hsteps⟩
  · exact Or.inl ⟨v, vm₁, B, X₁.warmed, X', hpost, fun target h => hstep₁ _ fun acts => by rw [doInvoke_state]; exact hsteps.trans h⟩
  · exact Or.inr ⟨q, vm₁, B, X₁.warmed, X', hpost, hstep₁ _ fun acts => by rw [doInvoke_state]; exact hsteps⟩
theorem vx_callS (X : Stand p l e R s m args below meth c T locs cells slots) (hexec : p.tables.exec = Jvm.exec) {own : String} {index : Nat} {y : MethodName} {bytes : ByteArray} {maxL : Nat} {ret : Option FieldType}
    (hown : s.vm.findClass own = some m.cls) (hlink : (Cond.methodLink own index y).before args s = true) (hstat : (Cond.static y).before args s = true) (hinit : (Cond.initialized y.cls).before args s = true)
    (hcode : (Cond.code y bytes maxL ret).before args s = true) (hy : y.cls ≠ "java/lang/invoke/MethodHandle" ∧ y.cls ≠ "java/lang/invoke/VarHandle")
    {W9 : Nat} {Pre : Pt → Array Value → Prop} {Post : Pt → Array Value → Option Value → Pt → Prop} {PostX : Pt → Array Value → Addr → Pt → Prop} (hK : vx_Back l R p e below s args y 3 W9 Pre Post PostX)
    {g : JFrame} (hg : g.method = m) (hsize : g.locals.size = c.maxLocals) {argsL rest : List Value} (hlen : ∀ sig, parseMethodDescriptor y.desc = some sig → argsL.length = sig.parameters.length)
    (hstack : g.stack = argsL.reverse ++ rest) (hW : 2 * g.monitorRoom + (rest.map fun v => v.category).sum ≤ W9) (hdg : decode c.code g.pc = .ok (.invokestatic index, 3))
    (hpre : ∀ vm₁, s.WarmedH vm₁ → Pre ⟨T.setVm vm₁, locs, cells, slots⟩ argsL.toArray) :
    (∃ (v : Option Value) (vm₁ : Vm) (B : Pt), s.WarmedH vm₁ ∧ Stand p l e R s m args below meth c B.U B.locs B.cells B.slots ∧ Post ⟨T.setVm vm₁, locs, cells, slots⟩ argsL.toArray v B ∧
      ∀ target, Steps p.tables e below (B.U.setTop { g with pc := g.pc + 3, stack := v.toList ++ rest }) target → Steps p.tables e below (T.setTop g) target) ∨
    (∃ (q : Addr) (vm₁ : Vm) (B : Pt), s.WarmedH vm₁ ∧ Stand p l e R s m args below meth c B.U B.locs B.cells B.slots ∧ PostX ⟨T.setVm vm₁, locs, cells, slots⟩ argsL.toArray q B ∧
      Steps p.tables e below (T.setTop g) ((B.U.setTop { g with stack := rest }).pushFrame (.throwing q))) := by
  obtain ⟨mk, hnamed⟩ := Cond.code_named hcode
  obtain ⟨methM, cM, hmethM, -, -, -, -, -, -, hsigM⟩ := Cond.code_spec hnamed hcode
  have hstatic : methM.isStatic = true := Cond.static_spec hnamed hmethM hstat
  obtain ⟨kP, hkP, -⟩ := className_of_methodNamed hnamed
  have hinitP : kP.init = .initialized := Cond.initialized_spec (findClass_of_methodNamed hnamed) hkP hinit
  obtain ⟨vm₁, X₁, hstep₁⟩ := X.invokestatic hexec hown hlink hnamed hmethM hstatic hkP hinitP hy (g := g) hg (argsL := argsL) (rest := rest) (hlen _ hsigM) hstack hdg
  rcases hK m meth c ⟨T.setVm vm₁, locs, cells, slots⟩ { g with stack := rest } (.invokestatic index) mk argsL.toArray X₁ hg hsize hdg hW (X₁.named hnamed) (hpre vm₁ X₁.warmed) with ⟨v, B, X', hpost, hsteps⟩ | ⟨q, B, X', hpost, hsteps⟩
  · exact Or.inl ⟨v, vm₁, B, X₁.warmed, X', hpost, fun target h => hstep₁ _ fun acts => by rw [doInvoke_state]; exact hsteps.trans h⟩
  · exact Or.inr ⟨q, vm₁, B, X₁.warmed, X', hpost, hstep₁ _ fun acts => by rw [doInvoke_state]; exact hsteps⟩
end Calls
theorem vx_cls {s : State} {T : State} {vm₁ : Vm} {E : String} {k : ClassId} (hW : s.WarmedH vm₁) (h : (T.setVm vm₁).vm.findClass E = some k) : s.vm.findClass E = some k := by
  have h1 : vm₁.findClass E = some k := h
  rw [hW.alike.findClass] at h1
  exact h1
/-- the method's frame g, with q thrown over it -/
def vx_W (p : Program) (l : Launch) (e : Env) (R : Room) (s : State) (m : MethodId) (args : Array Value) (below : List Frame) (meth : Method) (c : Code) (H : Heap) (locs : List Loc) (cells slots : Nat) (Q : State → Prop) (g : JFrame) (q : Addr) : Prop :=
  ∀ T : State, T.heap = H → Stand p l e R s m args below meth c T locs cells slots → ∃ t, Steps p.tables e below ((T.setTop g).pushFrame (.throwing q)) t ∧ Q t
def vx_Run (p : Program) (l : Launch) (e : Env) (R : Room) (s : State) (m : MethodId) (args : Array Value) (below : List Frame) (meth : Method) (c : Code) (H : Heap) (locs : List Loc) (cells slots mc ms : Nat) (g : JFrame) (rest : List Value) (Qa : State → Outcome → State → Prop) (XC : String → State → State → Prop) (free : Addr → Prop) : Prop :=
  ∀ T : State, T.heap = H → Stand p l e R s m args below meth c T locs cells slots →
    (∃ (v : Option Value) (st₀ t T' : State) (L : List Loc), st₀.heap = H ∧ Stand p l e R s m args below meth c T' (locs ++ L) (cells + mc) (slots + ms) ∧ (∀ q ∈ L, free q.base) ∧ T'.heap = t.heap ∧ T'.vm = t.vm ∧ Qa st₀ (.returned v) t ∧
      Goes p e below T g T' { g with pc := g.pc + 3, stack := v.toList ++ rest }) ∨
    (∃ (q : Addr) (st₀ t T' : State) (L : List Loc) (E : String) (ce : Cell), st₀.heap = H ∧ Stand p l e R s m args below meth c T' (locs ++ L) (cells + mc) (slots + ms) ∧ (∀ z ∈ L, free z.base) ∧ T'.heap = t.heap ∧ T'.vm = t.vm ∧ XC E st₀ t ∧ t.heap[q]? = some ce ∧ ce.vm = .none ∧ s.vm.findClass E = some ce.cls ∧
      Steps p.tables e below (T.setTop g) ((T'.setTop { g with stack := rest }).pushFrame (.throwing q)))
def vx_X {S : Type} (px : S → Prop) (B : String → S → State → Prop) (A : Nat → Prop) : String → State → State → Prop := fun E st t => ∃ u : S, px u ∧ B E u t ∧ va_F A st t
section Runs
variable {p : Program} {l : Launch} {e : Env} {R : Room} {s : State} {m : MethodId} {args : Array Value} {below : List Frame} {meth : Method} {c : Code} {H : Heap} {locs : List Loc} {cells slots : Nat}
variable {y : MethodName} {bytes cc : ByteArray} {maxL nL mc ms n index : Nat} {ret : Option FieldType} {ws : List Cond} {rm : Room} {Pc : Array Value → State → Prop} {Qc : Array Value → State → Outcome → State → Prop} {XC : String → State → State → Prop} {free : Addr → Prop} {Ts : List Cond} {own C : String} {b : Addr} {As rest : List Value} {g : JFrame}
theorem vx_callBack (cb : CallB R s args own index y bytes maxL ret ws rm mc ms n) (hM : vx_Met l y ws rm Pc Qc XC mc ms free) (hbl : FrameBlind Pc) : vx_Back l R p e below s args y 3 8 (PreOf R mc ms Pc) (PostOf Qc mc ms free) (vx_Post XC mc ms free) := by
  obtain ⟨hrc, hrs, hfr, hlo, hws, hcw, -, hini, -⟩ := cb
  exact vx_back (bytes := bytes) (maxL := maxL) (ret := ret) hM hbl hrc hrs hfr hlo hws hcw (fun a' U hW => word_at hW (Or.inl (by first | rfl | simp [Cond.onTables, Cond.keeps, Cond.steady])) hini)
theorem vx_runV (S : CallFix p m c cc nL s args Ts own) (hM : vx_Met l y ws rm Pc Qc XC mc ms free) (cw : CallW R s args own C index y bytes maxL ret ws rm mc ms n) (hp : PreV s H C b Pc As)
    (hg : g.method = m) (hn : As.length = n) (hsize : g.locals.size = nL) (hstack : g.stack = As.reverse ++ .ref b :: rest) (hW : 2 * g.monitorRoom + (rest.map fun v => v.category).sum ≤ 8) (hdg : decode cc g.pc = .ok (.invokevirtual index, 3)) (hf : cells + mc ≤ R.cells ∧ slots + ms ≤ R.slots) :
    vx_Run p l e R s m args below meth c H locs cells slots mc ms g rest (Qc (Value.ref b :: As).toArray) XC free := by
  have hK : vx_Back l R p e below s args y 3 8 (PreOf R mc ms Pc) (PostOf Qc mc ms free) (vx_Post XC mc ms free) := vx_callBack cw.1 hM hp.1
  obtain ⟨⟨-, -, -, -, -, -, hcode, -, hy, hlen, hl⟩, hin, hse⟩ := cw
  obtain ⟨hx, hb, hml, ho, -⟩ := S
  obtain ⟨-, ⟨cellB, hcB, hoB, hclB⟩, hPc⟩ := hp
  intro T hT X
  rcases vx_callV X hx (C := C) (bytes := bytes) (maxL := maxL) (ret := ret) ho hl hin hse hcode hy hK (by rw [hT]; exact hcB) hoB hclB hg (hsize.trans hml.symm) (argsL := As) (rest := rest) (fun sig h => hn.trans (hlen sig h)) hstack hW (by rw [hb]; exact hdg)
    (fun vm₁ hW₁ => ⟨hf.1, hf.2, hPc (T.setVm vm₁) hT hW₁⟩) with ⟨v, vm₁, ⟨U', l2, c2, s2⟩, hW₁, X', ⟨g', mk, t, L, e1, e2, hq, h1, hL, h2, h3⟩, st⟩ | ⟨q, vm₁, ⟨U', l2, c2, s2⟩, hW₁, X', ⟨g', mk, t, L, E, ce, e1, e2, hq, hce, hcv, hcl, h1, hL, h2, h3⟩, st⟩
  · dsimp only [Pt.U, Pt.locs, Pt.cells, Pt.slots] at X' e1 e2 h1 h2 h3 st
    subst h1; subst h2; subst h3
    exact Or.inl ⟨v, (T.setVm vm₁).calling g' mk (Value.ref b :: As).toArray, t, U', L, hT, X', hL, e1, e2, hq, st⟩
  · dsimp only [Pt.U, Pt.locs, Pt.cells, Pt.slots] at X' e1 e2 h1 h2 h3 st hcl
    subst h1; subst h2; subst h3
    exact Or.inr ⟨q, (T.setVm vm₁).calling g' mk (Value.ref b :: As).toArray, t, U', L, E, ce, hT, X', hL, e1, e2, hq, hce, hcv, vx_cls hW₁ hcl, st⟩
theorem vx_runS (S : CallFix p m c cc nL s args Ts own) (hM : vx_Met l y ws rm Pc Qc XC mc ms free) (cw : CallB R s args own index y bytes maxL ret ws rm mc ms n ∧ (Cond.static y).before args s = true) (hp : PreS s H Pc As)
    (hg : g.method = m) (hn : As.length = n) (hsize : g.locals.size = nL) (hstack : g.stack = As.reverse ++ rest) (hW : 2 * g.monitorRoom + (rest.map fun v => v.category).sum ≤ 8) (hdg : decode cc g.pc = .ok (.invokestatic index, 3)) (hf : cells + mc ≤ R.cells ∧ slots + ms ≤ R.slots) :
    vx_Run p l e R s m args below meth c H locs cells slots mc ms g rest (Qc As.toArray) XC free := by
  have hK : vx_Back l R p e below s args y 3 8 (PreOf R mc ms Pc) (PostOf Qc mc ms free) (vx_Post XC mc ms free) := vx_callBack cw.1 hM hp.1
  obtain ⟨⟨-, -, -, -, -, -, hcode, hini, hy, hlen, hl⟩, hstt⟩ := cw
  obtain ⟨hx, hb, hml, ho, -⟩ := S
  intro T hT X
  rcases vx_callS X hx (bytes := bytes) (maxL := maxL) (ret := ret) ho hl hstt hini hcode hy hK hg (hsize.trans hml.symm) (argsL := As) (rest := rest) (fun sig h => hn.trans (hlen sig h)) hstack hW (by rw [hb]; exact hdg)
    (fun vm₁ hW₁ => ⟨hf.1, hf.2, hp.2 (T.setVm vm₁) hT hW₁⟩) with ⟨v, vm₁, ⟨U', l2, c2, s2⟩, hW₁, X', ⟨g', mk, t, L, e1, e2, hq, h1, hL, h2, h3⟩, st⟩ | ⟨q, vm₁, ⟨U', l2, c2, s2⟩, hW₁, X', ⟨g', mk, t, L, E, ce, e1, e2, hq, hce, hcv, hcl, h1, hL, h2, h3⟩, st⟩
  · dsimp only [Pt.U, Pt.locs, Pt.cells, Pt.slots] at X' e1 e2 h1 h2 h3 st
    subst h1; subst h2; subst h3
    exact Or.inl ⟨v, (T.setVm vm₁).calling g' mk As.toArray, t, U', L, hT, X', hL, e1, e2, hq, st⟩
  · dsimp only [Pt.U, Pt.locs, Pt.cells, Pt.slots] at X' e1 e2 h1 h2 h3 st hcl
    subst h1; subst h2; subst h3
    exact Or.inr ⟨q, (T.setVm vm₁).calling g' mk As.toArray, t, U', L, E, ce, hT, X', hL, e1, e2, hq, hce, hcv, vx_cls hW₁ hcl, st⟩
end Runs
section Rows
variable {p : Program} {l : Launch} {e : Env} {R : Room} {s : State} {m : MethodId} {args : Array Value} {below : List Frame} {meth : Method} {c : Code} {H : Heap} {locs : List Loc} {cells slots : Nat} {Q : State → Prop}
variable {mc ms : Nat} {free : Addr → Prop} {A0 A1 : Nat → Prop} {H0 : Heap} {a : Array Value} {pc : Nat} {ls : Array Slot} {st0 rest : List Value}
theorem vx_keep {st₀ t T' : State} {L : List Loc} (h0 : st₀.heap = H) (e1 : T'.heap = t.heap) (hS : va_S A0 H0 H locs) (hA : ∀ q, q < H.size → A1 q → A0 q) (hf : ∀ q, free q → A0 q) (hL : ∀ q ∈ L, free q.base) (hF : va_F A1 st₀ t) :
    H.size ≤ T'.heap.size ∧ (∀ q : Nat, q < H.size → ¬ A1 q → T'.heap[q]? = H[q]?) ∧ va_S A0 H0 T'.heap (locs ++ L) := by
  obtain ⟨hz, hk⟩ := hF
  rw [h0] at hz hk
  exact ⟨by rw [e1]; exact hz, fun q h1 h2 => by rw [e1]; exact hk q h1 h2,
    ⟨Nat.le_trans hS.1 (by rw [e1]; exact hz), fun q h1 h2 => by rw [e1, hk q (Nat.lt_of_lt_of_le h1 hS.1) (fun z => h2 (hA q (Nat.lt_of_lt_of_le h1 hS.1) z))]; exact hS.2.1 q h1 h2, fun q hq => by
      rcases List.mem_append.mp hq with h | h
      · exact hS.2.2 q h
      · exact hf _ (hL q h)⟩⟩
theorem vx_calli {S SX : Type} {post : Int32 → S → Prop} {px : SX → Prop} {B : S → State → Prop} {BX : String → SX → State → Prop} {AX : Nat → Prop} (hr : vx_Run p l e R s m args below meth c H locs cells slots mc ms (F0 m pc ls st0) rest (va_Qi post B A1 a) (vx_X px BX AX) free) (hS : va_S A0 H0 H locs) (hA : ∀ q, q < H.size → A1 q → A0 q) (hf : ∀ q, free q → A0 q) (hAX : ∀ q, q < H.size → AX q → A0 q)
    (kx : ∀ (E : String) (ce : Cell) (q9 : Addr) (u : SX) (t : State) (H1 : Heap) (locs1 : List Loc), t.heap = H1 → s.vm.Alike t.vm → px u → BX E u t → H.size ≤ H1.size → (∀ q : Nat, q < H.size → ¬ AX q → H1[q]? = H[q]?) → va_S A0 H0 H1 locs1 → H1[q9]? = some ce → ce.vm = .none → s.vm.findClass E = some ce.cls → vx_W p l e R s m args below meth c H1 locs1 (cells + mc) (slots + ms) Q (F0 m pc ls rest) q9)
    (kk : ∀ (r : Int32) (u : S) (t : State) (H1 : Heap) (locs1 : List Loc), t.heap = H1 → s.vm.Alike t.vm → post r u → B u t → H.size ≤ H1.size → (∀ q : Nat, q < H.size → ¬ A1 q → H1[q]? = H[q]?) → va_S A0 H0 H1 locs1 → W p l e R s m args below meth c H1 locs1 (cells + mc) (slots + ms) Q (F0 m (pc + 3) ls (.int r :: rest))) : W p l e R s m args below meth c H locs cells slots Q (F0 m pc ls st0) := by
  intro T hT X
  rcases hr T hT X with ⟨v, st₀, t, T', L, h0, X', hL, e1, e2, ⟨⟨r, u, hv, hp, hb⟩, hF⟩, st⟩ | ⟨q, st₀, t, T', L, E, ce, h0, X', hL, e1, e2, ⟨u, hp, hb, hF⟩, hce, hcv, hcl, st⟩
  · cases hv
    obtain ⟨k1, k2, k3⟩ := vx_keep h0 e1 hS hA hf hL hF
    obtain ⟨t2, a1, b1⟩ := kk r u t T'.heap (locs ++ L) e1.symm (by rw [← e2]; exact X'.warmed.alike) hp hb k1 k2 k3 T' rfl X'
    exact ⟨t2, st t2 a1, b1⟩
  · obtain ⟨k1, k2, k3⟩ := vx_keep h0 e1 hS hAX hf hL hF
    obtain ⟨t2, a1, b1⟩ := kx E ce q u t T'.heap (locs ++ L) e1.symm (by rw [← e2]; exact X'.warmed.alike) hp hb k1 k2 k3 (by rw [e1]; exact hce) hcv hcl T' rfl X'
    exact ⟨t2, st.trans a1, b1⟩
theorem vx_calll {S SX : Type} {post : Int64 → S → Prop} {px : SX → Prop} {B : S → State → Prop} {BX : String → SX → State → Prop} {AX : Nat → Prop} (hr : vx_Run p l e R s m args below meth c H locs cells slots mc ms (F0 m pc ls st0) rest (va_Ql post B A1 a) (vx_X px BX AX) free) (hS : va_S A0 H0 H locs) (hA : ∀ q, q < H.size → A1 q → A0 q) (hf : ∀ q, free q → A0 q) (hAX : ∀ q, q < H.size → AX q → A0 q)
    (kx : ∀ (E : String) (ce : Cell) (q9 : Addr) (u : SX) (t : State) (H1 : Heap) (locs1 : List Loc), t.heap = H1 → s.vm.Alike t.vm → px u → BX E u t → H.size ≤ H1.size → (∀ q : Nat, q < H.size → ¬ AX q → H1[q]? = H[q]?) → va_S A0 H0 H1 locs1 → H1[q9]? = some ce → ce.vm = .none → s.vm.findClass E = some ce.cls → vx_W p l e R s m args below meth c H1 locs1 (cells + mc) (slots + ms) Q (F0 m pc ls rest) q9)
    (kk : ∀ (r : Int64) (u : S) (t : State) (H1 : Heap) (locs1 : List Loc), t.heap = H1 → s.vm.Alike t.vm → post r u → B u t → H.size ≤ H1.size → (∀ q : Nat, q < H.size → ¬ A1 q → H1[q]? = H[q]?) → va_S A0 H0 H1 locs1 → W p l e R s m args below meth c H1 locs1 (cells + mc) (slots + ms) Q (F0 m (pc + 3) ls (.long r :: rest))) : W p l e R s m args below meth c H locs cells slots Q (F0 m pc ls st0) := by
  intro T hT X
  rcases hr T hT X with ⟨v, st₀, t, T', L, h0, X', hL, e1, e2, ⟨⟨r, u, hv, hp, hb⟩, hF⟩, st⟩ | ⟨q, st₀, t, T', L, E, ce, h0, X', hL, e1, e2, ⟨u, hp, hb, hF⟩, hce, hcv, hcl, st⟩
  · cases hv
    obtain ⟨k1, k2, k3⟩ := vx_keep h0 e1 hS hA hf hL hF
    obtain ⟨t2, a1, b1⟩ := kk r u t T'.heap (locs ++ L) e1.symm (by rw [← e2]; exact X'.warmed.alike) hp hb k1 k2 k3 T' rfl X'
    exact ⟨t2, st t2 a1, b1⟩
  · obtain ⟨k1, k2, k3⟩ := vx_keep h0 e1 hS hAX hf hL hF
    obtain ⟨t2, a1, b1⟩ := kx E ce q u t T'.heap (locs ++ L) e1.symm (by rw [← e2]; exact X'.warmed.alike) hp hb k1 k2 k3 (by rw [e1]; exact hce) hcv hcl T' rfl X'
    exact ⟨t2, st.trans a1, b1⟩
theorem vx_callf {S SX : Type} {post : UInt32 → S → Prop} {px : SX → Prop} {B : S → State → Prop} {BX : String → SX → State → Prop} {AX : Nat → Prop} (hr : vx_Run p l e R s m args below meth c H locs cells slots mc ms (F0 m pc ls st0) rest (va_Qf post B A1 a) (vx_X px BX AX) free) (hS : va_S A0 H0 H locs) (hA : ∀ q, q < H.size → A1 q → A0 q) (hf : ∀ q, free q → A0 q) (hAX : ∀ q, q < H.size → AX q → A0 q)
    (kx : ∀ (E : String) (ce : Cell) (q9 : Addr) (u : SX) (t : State) (H1 : Heap) (locs1 : List Loc), t.heap = H1 → s.vm.Alike t.vm → px u → BX E u t → H.size ≤ H1.size → (∀ q : Nat, q < H.size → ¬ AX q → H1[q]? = H[q]?) → va_S A0 H0 H1 locs1 → H1[q9]? = some ce → ce.vm = .none → s.vm.findClass E = some ce.cls → vx_W p l e R s m args below meth c H1 locs1 (cells + mc) (slots + ms) Q (F0 m pc ls rest) q9)
    (kk : ∀ (r : UInt32) (u : S) (t : State) (H1 : Heap) (locs1 : List Loc), t.heap = H1 → s.vm.Alike t.vm → post r u → B u t → H.size ≤ H1.size → (∀ q : Nat, q < H.size → ¬ A1 q → H1[q]? = H[q]?) → va_S A0 H0 H1 locs1 → W p l e R s m args below meth c H1 locs1 (cells + mc) (slots + ms) Q (F0 m (pc + 3) ls (.float r :: rest))) : W p l e R s m args below meth c H locs cells slots Q (F0 m pc ls st0) := by
  intro T hT X
  rcases hr T hT X with ⟨v, st₀, t, T', L, h0, X', hL, e1, e2, ⟨⟨r, u, hv, hp, hb⟩, hF⟩, st⟩ | ⟨q, st₀, t, T', L, E, ce, h0, X', hL, e1, e2, ⟨u, hp, hb, hF⟩, hce, hcv, hcl, st⟩
  · cases hv
    obtain ⟨k1, k2, k3⟩ := vx_keep h0 e1 hS hA hf hL hF
    obtain ⟨t2, a1, b1⟩ := kk r u t T'.heap (locs ++ L) e1.symm (by rw [← e2]; exact X'.warmed.alike) hp hb k1 k2 k3 T' rfl X'
    exact ⟨t2, st t2 a1, b1⟩
  · obtain ⟨k1, k2, k3⟩ := vx_keep h0 e1 hS hAX hf hL hF
    obtain ⟨t2, a1, b1⟩ := kx E ce q u t T'.heap (locs ++ L) e1.symm (by rw [← e2]; exact X'.warmed.alike) hp hb k1 k2 k3 (by rw [e1]; exact hce) hcv hcl T' rfl X'
    exact ⟨t2, st.trans a1, b1⟩
theorem vx_calld {S SX : Type} {post : UInt64 → S → Prop} {px : SX → Prop} {B : S → State → Prop} {BX : String → SX → State → Prop} {AX : Nat → Prop} (hr : vx_Run p l e R s m args below meth c H locs cells slots mc ms (F0 m pc ls st0) rest (va_Qd post B A1 a) (vx_X px BX AX) free) (hS : va_S A0 H0 H locs) (hA : ∀ q, q < H.size → A1 q → A0 q) (hf : ∀ q, free q → A0 q) (hAX : ∀ q, q < H.size → AX q → A0 q)
    (kx : ∀ (E : String) (ce : Cell) (q9 : Addr) (u : SX) (t : State) (H1 : Heap) (locs1 : List Loc), t.heap = H1 → s.vm.Alike t.vm → px u → BX E u t → H.size ≤ H1.size → (∀ q : Nat, q < H.size → ¬ AX q → H1[q]? = H[q]?) → va_S A0 H0 H1 locs1 → H1[q9]? = some ce → ce.vm = .none → s.vm.findClass E = some ce.cls → vx_W p l e R s m args below meth c H1 locs1 (cells + mc) (slots + ms) Q (F0 m pc ls rest) q9)
    (kk : ∀ (r : UInt64) (u : S) (t : State) (H1 : Heap) (locs1 : List Loc), t.heap = H1 → s.vm.Alike t.vm → post r u → B u t → H.size ≤ H1.size → (∀ q : Nat, q < H.size → ¬ A1 q → H1[q]? = H[q]?) → va_S A0 H0 H1 locs1 → W p l e R s m args below meth c H1 locs1 (cells + mc) (slots + ms) Q (F0 m (pc + 3) ls (.double r :: rest))) : W p l e R s m args below meth c H locs cells slots Q (F0 m pc ls st0) := by
  intro T hT X
  rcases hr T hT X with ⟨v, st₀, t, T', L, h0, X', hL, e1, e2, ⟨⟨r, u, hv, hp, hb⟩, hF⟩, st⟩ | ⟨q, st₀, t, T', L, E, ce, h0, X', hL, e1, e2, ⟨u, hp, hb, hF⟩, hce, hcv, hcl, st⟩
  · cases hv
    obtain ⟨k1, k2, k3⟩ := vx_keep h0 e1 hS hA hf hL hF
    obtain ⟨t2, a1, b1⟩ := kk r u t T'.heap (locs ++ L) e1.symm (by rw [← e2]; exact X'.warmed.alike) hp hb k1 k2 k3 T' rfl X'
    exact ⟨t2, st t2 a1, b1⟩
  · obtain ⟨k1, k2, k3⟩ := vx_keep h0 e1 hS hAX hf hL hF
    obtain ⟨t2, a1, b1⟩ := kx E ce q u t T'.heap (locs ++ L) e1.symm (by rw [← e2]; exact X'.warmed.alike) hp hb k1 k2 k3 (by rw [e1]; exact hce) hcv hcl T' rfl X'
    exact ⟨t2, st.trans a1, b1⟩
theorem vx_callv {S SX : Type} {post : S → Prop} {px : SX → Prop} {B : S → State → Prop} {BX : String → SX → State → Prop} {AX : Nat → Prop} (hr : vx_Run p l e R s m args below meth c H locs cells slots mc ms (F0 m pc ls st0) rest (va_Qv post B A1 a) (vx_X px BX AX) free) (hS : va_S A0 H0 H locs) (hA : ∀ q, q < H.size → A1 q → A0 q) (hf : ∀ q, free q → A0 q) (hAX : ∀ q, q < H.size → AX q → A0 q)
    (kx : ∀ (E : String) (ce : Cell) (q9 : Addr) (u : SX) (t : State) (H1 : Heap) (locs1 : List Loc), t.heap = H1 → s.vm.Alike t.vm → px u → BX E u t → H.size ≤ H1.size → (∀ q : Nat, q < H.size → ¬ AX q → H1[q]? = H[q]?) → va_S A0 H0 H1 locs1 → H1[q9]? = some ce → ce.vm = .none → s.vm.findClass E = some ce.cls → vx_W p l e R s m args below meth c H1 locs1 (cells + mc) (slots + ms) Q (F0 m pc ls rest) q9)
    (kk : ∀ (u : S) (t : State) (H1 : Heap) (locs1 : List Loc), t.heap = H1 → s.vm.Alike t.vm → post u → B u t → H.size ≤ H1.size → (∀ q : Nat, q < H.size → ¬ A1 q → H1[q]? = H[q]?) → va_S A0 H0 H1 locs1 → W p l e R s m args below meth c H1 locs1 (cells + mc) (slots + ms) Q (F0 m (pc + 3) ls (rest))) : W p l e R s m args below meth c H locs cells slots Q (F0 m pc ls st0) := by
  intro T hT X
  rcases hr T hT X with ⟨v, st₀, t, T', L, h0, X', hL, e1, e2, ⟨⟨u, hv, hp, hb⟩, hF⟩, st⟩ | ⟨q, st₀, t, T', L, E, ce, h0, X', hL, e1, e2, ⟨u, hp, hb, hF⟩, hce, hcv, hcl, st⟩
  · cases hv
    obtain ⟨k1, k2, k3⟩ := vx_keep h0 e1 hS hA hf hL hF
    obtain ⟨t2, a1, b1⟩ := kk u t T'.heap (locs ++ L) e1.symm (by rw [← e2]; exact X'.warmed.alike) hp hb k1 k2 k3 T' rfl X'
    exact ⟨t2, st t2 a1, b1⟩
  · obtain ⟨k1, k2, k3⟩ := vx_keep h0 e1 hS hAX hf hL hF
    obtain ⟨t2, a1, b1⟩ := kx E ce q u t T'.heap (locs ++ L) e1.symm (by rw [← e2]; exact X'.warmed.alike) hp hb k1 k2 k3 (by rw [e1]; exact hce) hcv hcl T' rfl X'
    exact ⟨t2, st.trans a1, b1⟩
end Rows
section Ends
variable {p : Program} {l : Launch} {e : Env} {R : Room} {s : State} {m : MethodId} {args : Array Value} {below : List Frame} {meth : Method} {c : Code} {H : Heap} {locs : List Loc} {cells slots : Nat} {Q : State → Prop}
variable {mc ms : Nat} {free : Addr → Prop} {A0 A1 : Nat → Prop} {H0 : Heap} {a : Array Value} {ls : Array Slot} {st0 rest : List Value}
variable {Qc : Array Value → State → Outcome → State → Prop} {XC : String → State → State → Prop}
/-- what a body that may throw owes at its end -/
def vx_MQ (below : List Frame) (Qc : Array Value → State → Outcome → State → Prop) (XC : String → State → State → Prop) (a : Array Value) (s : State) (mc ms : Nat) (free : Addr → Prop) : State → Prop := fun t =>
  ∃ o, t.status = .running ∧ Ended t below o ∧ vx_Q Qc XC mc ms free a s o t
theorem vx_ret {g : JFrame} {mc ms : Nat} (k : W p l e R s m args below meth c H locs cells slots (MQ below Qc args s mc ms free) g) : W p l e R s m args below meth c H locs cells slots (vx_MQ below Qc XC args s mc ms free) g := by
  intro T hT X
  obtain ⟨t, a1, o, b1, b2, b3, b4⟩ := k T hT X
  exact ⟨t, a1, o, b1, b2, Or.inl ⟨b3, b4⟩⟩
/-- not caught here: it goes on to the caller -/
theorem vx_widen {g : JFrame} {q : Addr} {k n : Nat} (h1 : cells ≤ k) (h2 : slots ≤ n) (kk : vx_W p l e R s m args below meth c H locs k n Q g q) : vx_W p l e R s m args below meth c H locs cells slots Q g q := fun T hT X => kk T hT (stand_widen X h1 h2)
theorem vx_out {pc : Nat} {E : String} {ce : Cell} {q : Addr} {mc ms : Nat} (hout : ∀ x ∈ c.exceptionTable.toList, covers x pc = false) (hlocks : meth.locks = false) (hcell : H[q]? = some ce) (hv : ce.vm = .none) (hcl : s.vm.findClass E = some ce.cls)
    (hx : ∀ t : State, t.heap = H → s.vm.Alike t.vm → XC E s t) (hf : ∀ z ∈ locs, free z.base) (hc : cells ≤ mc) (hs : slots ≤ ms) :
    vx_W p l e R s m args below meth c H locs cells slots (vx_MQ below Qc XC args s mc ms free) (F0 m pc ls rest) q := by
  intro T hT X
  obtain ⟨st1, hrun, hend, hW, hsm⟩ := X.leaveThrown q (g := F0 m pc ls rest) rfl rfl rfl hout hlocks
  have hcell9 : (T.setFrames (.throwing q :: below)).heap[q]? = some ce := by
    show T.heap[q]? = some ce
    rw [hT]; exact hcell
  exact ⟨_, st1, .threw q, hrun, hend, Or.inr ⟨q, rfl, E, ce, locs, hx _ hT hW.alike, hcell9, hv, hcl, hW, hsm.mono hc hs, hf⟩⟩
theorem vx_frame {U : State} {k n : Nat} (h : s.sameButNew ({ U with vm := s.vm } : State) locs k n) : s.heap.size ≤ U.heap.size ∧ ∀ q : Nat, q < s.heap.size → (∀ z ∈ locs, z.base ≠ q) → U.heap[q]? = s.heap[q]? := by
  obtain ⟨-, h2, -, -, -, h6⟩ := h
  refine ⟨h2, fun q hq hz => ?_⟩
  obtain ⟨c9, e1, e2, e3, e4⟩ := h6 q _ (Array.getElem?_eq_getElem hq)
  have hs : c9.slots = (s.heap[q]).slots := Array.ext_getElem? fun i => e4 i fun hm => hz _ hm rfl
  have h9 : c9 = s.heap[q] := by
    rw [hs] at e2
    exact e2
  have e5 : U.heap[q]? = some c9 := e1
  rw [e5, h9, Array.getElem?_eq_getElem hq]
/-- the words of a throw but the four that speak of the heap -/
def vx_no (w : Cond) : Bool := decide (w ≠ .isRef (.static Bundle.tN "UNASSIGNED_STACK" Bundle.steD)) && decide (w ≠ .isRef (.static Bundle.tN "SUPPRESSED_SENTINEL" Bundle.listD)) && decide (w ≠ .laysStatic Bundle.tN "UNASSIGNED_STACK" Bundle.steD) && decide (w ≠ .laysStatic Bundle.tN "SUPPRESSED_SENTINEL" Bundle.listD)
def vx_at0 (own : String) (ic : Nat) (X : String) (names : List String) : List Cond := (Bundle.ownAtoms0 own ic X names).filter vx_no
def vx_atS (own : String) (ic : Nat) (X : String) (names : List String) : List Cond := (Bundle.ownAtoms own ic X names).filter vx_no
/-- a word that the tables alone decide, or a good one -/
def vx_ot (w : Cond) : Bool := w.onTables || goodWord w
theorem vx_ot_at {args a' : Array Value} {s U : State} {w : Cond} (hW : s.WarmedH U.vm) (hvm : s.vm = U.vm) (hg : vx_ot w = true) (h : w.before args s = true) : w.before a' U = true := by
  simp only [vx_ot, Bool.or_eq_true] at hg
  rcases hg with hg | hg
  · exact va_tabs hg hvm h
  · exact word_at hW (good_of_word hg) h
/-- a list's words: the good ones out of the method's own list, the others by premises of their own -/
theorem vx_hat {args : Array Value} {s : State} {L B : List Cond} (h1 : ∀ w ∈ L.filter goodWord, w.before args s = true) (h2 : ∀ w ∈ L.filter (fun w => !goodWord w), w ∈ B) (h3 : ∀ w ∈ B, w.before args s = true) : ∀ w ∈ L, w.before args s = true := by
  intro w hw
  by_cases g : goodWord w = true
  · exact h1 w (List.mem_filter.mpr ⟨hw, g⟩)
  · refine h3 w (h2 w (List.mem_filter.mpr ⟨hw, ?_⟩))
    show (!goodWord w) = true
    cases hgw : goodWord w
    · rfl
    · exact absurd hgw g
theorem vx_c {args : Array Value} {s : State} {w : Cond} {B : List Cond} (h : w.before args s = true) (t : ∀ w ∈ B, w.before args s = true) : ∀ w' ∈ w :: B, w'.before args s = true := fun w' h' => (List.mem_cons.mp h').elim (fun e => by rw [e]; exact h) (t w')
theorem vx_n {args : Array Value} {s : State} : ∀ w ∈ ([] : List Cond), w.before args s = true := fun _ h => nomatch h
theorem vx_own {args : Array Value} {s : State} {L : List Cond} (h1 : ∀ w ∈ L.filter vx_no, w.before args s = true)
    (hU : (Cond.isRef (.static Bundle.tN "UNASSIGNED_STACK" Bundle.steD)).before args s = true) (hN : (Cond.isRef (.static Bundle.tN "SUPPRESSED_SENTINEL" Bundle.listD)).before args s = true)
    (lU : (Cond.laysStatic Bundle.tN "UNASSIGNED_STACK" Bundle.steD).before args s = true) (lN : (Cond.laysStatic Bundle.tN "SUPPRESSED_SENTINEL" Bundle.listD).before args s = true) : ∀ w ∈ L, w.before args s = true := by
  intro w hw
  by_cases e1 : w = .isRef (.static Bundle.tN "UNASSIGNED_STACK" Bundle.steD)
  · rw [e1]; exact hU
  · by_cases e2 : w = .isRef (.static Bundle.tN "SUPPRESSED_SENTINEL" Bundle.listD)
    · rw [e2]; exact hN
    · by_cases e3 : w = .laysStatic Bundle.tN "UNASSIGNED_STACK" Bundle.steD
      · rw [e3]; exact lU
      · by_cases e4 : w = .laysStatic Bundle.tN "SUPPRESSED_SENTINEL" Bundle.listD
        · rw [e4]; exact lN
        · exact h1 w (List.mem_filter.mpr ⟨hw, by unfold vx_no; rw [decide_eq_true e1, decide_eq_true e2, decide_eq_true e3, decide_eq_true e4]; rfl⟩)
/-- where a static field lies, its class's statics cell in H -/
def vx_L (C n d : String) (A : Nat → Prop) (U : State) (H : Heap) : Prop := ∃ (c : ClassId) (k : Class) (i : Nat) (f : Field) (a : Nat) (cell : Cell), U.vm.findClass C = some c ∧ U.fieldFound? C n d = some (c, k, i, f) ∧ f.isStatic = true ∧ k.statics = some a ∧ H[a]? = some cell ∧ cell.vm.isStatics = true ∧ cell.cls = c ∧ f.slot < cell.slots.size ∧ k.staticTypes[f.slot]? = some f.type ∧ ¬ A a
theorem vx_L.moved {C n d : String} {A : Nat → Prop} {u U : State} {H : Heap} (hvm : u.vm.Alike U.vm) (h : vx_L C n d A u H) : vx_L C n d A U H := by
  obtain ⟨c, k, i, f, a, cell, h1, h2, h3, h4, h5, h6, h7, h8, h9, h10⟩ := h
  obtain ⟨k', hi', he⟩ := State.fieldFound?_setVm hvm h2
  exact ⟨c, k', i, f, a, cell, by rw [hvm.findClass]; exact h1, hi', h3, by rw [he]; exact h4, h5, h6, h7, h8, by rw [he]; exact h9, h10⟩
theorem vx_L.kept {C n d : String} {A : Nat → Prop} {U : State} {H H1 : Heap} (h : vx_L C n d A U H) (hq : ∀ a : Nat, a < H.size → ¬ A a → H1[a]? = H[a]?) : vx_L C n d A U H1 := by
  obtain ⟨c, k, i, f, a, cell, h1, h2, h3, h4, h5, h6, h7, h8, h9, h10⟩ := h
  exact ⟨c, k, i, f, a, cell, h1, h2, h3, h4, by rw [hq a (Array.getElem?_eq_some_iff.mp h5).1 h10]; exact h5, h6, h7, h8, h9, h10⟩
theorem vx_L.narrow {C n d : String} {A B : Nat → Prop} {U : State} {H : Heap} (h : vx_L C n d A U H) (hAB : ∀ q, B q → A q) : vx_L C n d B U H := by
  obtain ⟨c, k, i, f, a, cell, h1, h2, h3, h4, h5, h6, h7, h8, h9, h10⟩ := h
  exact ⟨c, k, i, f, a, cell, h1, h2, h3, h4, h5, h6, h7, h8, h9, fun z => h10 (hAB _ z)⟩
theorem vx_L.word {C n d : String} {A : Nat → Prop} {s : State} {args : Array Value} (h : vx_L C n d A s s.heap) : (Cond.laysStatic C n d).before args s = true := by
  obtain ⟨c, k, i, f, a, cell, h1, h2, h3, h4, h5, h6, h7, h8, h9, -⟩ := h
  show (Cond.laysStatic C n d).holds args s none s [] = true
  exact Cond.laysStatic_of h1 h2 h3 h4 h5 h6 h7 h8 h9
/-- .. and what it holds: null or some reference -/
def vx_Zq (C n d : String) (A : Nat → Prop) (U : State) (H : Heap) : Prop := va_Zq C n d A U H ∧ vx_L C n d A U H
theorem vx_Zq.moved {C n d : String} {A : Nat → Prop} {u U : State} {H : Heap} (hvm : u.vm.Alike U.vm) (h : vx_Zq C n d A u H) : vx_Zq C n d A U H := ⟨va_Zq.moved hvm h.1, vx_L.moved hvm h.2⟩
theorem vx_Zq.kept {C n d : String} {A : Nat → Prop} {U : State} {H H1 : Heap} (h : vx_Zq C n d A U H) (hq : ∀ a : Nat, a < H.size → ¬ A a → H1[a]? = H[a]?) : vx_Zq C n d A U H1 := ⟨va_Zq.kept h.1 hq, vx_L.kept h.2 hq⟩
theorem vx_Zq.narrow {C n d : String} {A B : Nat → Prop} {U : State} {H : Heap} (h : vx_Zq C n d A U H) (hAB : ∀ q, B q → A q) : vx_Zq C n d B U H := ⟨va_Zq.narrow h.1 hAB, vx_L.narrow h.2 hAB⟩
theorem vx_Zqof {args : Array Value} {s : State} {C n d : String} {A : Nat → Prop} (hl : (Cond.laysStatic C n d).before args s = true) (hini : (Cond.initialized C).before args s = true) (h : (Cond.isRef (.static C n d)).before args s = true) (hA : ∀ a : Nat, a < s.heap.size → ¬ A a) : vx_Zq C n d A s s.heap := by
  refine ⟨va_Zqof hl hini h hA, ?_⟩
  obtain ⟨c, k, i, f, a, cell, h1, h2, h3, h4, h5, h6, h7, h8, h9⟩ := Cond.laysStatic_spec hl
  exact ⟨c, k, i, f, a, cell, h1, h2, h3, h4, h5, h6, h7, h8, h9, hA a (Array.getElem?_eq_some_iff.mp h5).1⟩
theorem vx_isRef {C n d : String} {v : Value} {A : Nat → Prop} {s : State} {args : Array Value} (h : va_Z C n d v A s s.heap) (hv : v.isRef = true) : (Cond.isRef (.static C n d)).before args s = true := by
  obtain ⟨cf, kf, fi, f, a, cell, h1, h2, h3, h4, h5, h6, h7, -⟩ := h
  have he : (Term.static C n d).eval args s none [] s = some v := by
    simp [Term.eval, State.fieldNamed?, h1, h2, h4, h5, h6, h7]
  simp only [Cond.before, Cond.holds, Cond.value, he]
  cases v <;> simp_all [Value.isRef]
theorem vx_isRefq {C n d : String} {A : Nat → Prop} {s : State} {args : Array Value} (h : va_Zq C n d A s s.heap) : (Cond.isRef (.static C n d)).before args s = true := by
  rcases h with h | ⟨t, h⟩
  · exact vx_isRef h rfl
  · exact vx_isRef h rfl
/-- the same frame, seen from here: as if the method were called anew in this heap -/
theorem vx_rebase {T : State} (X : Stand p l e R s m args below meth c T locs cells slots) {R' : Room} (hf : R'.frames ≤ R.frames) (hl : R'.locals ≤ R.locals) (hc : cells + R'.cells ≤ R.cells) (hs : slots + R'.slots ≤ R.slots) :
    Stand p l e R' ((T.setVm s.vm).setFrames (.invoking m args :: below)) m args below meth c T [] 0 0 := by
  have htop : (T.setVm s.vm).topJava?.isSome := X.here.top
  have hF : ((T.setVm s.vm).setFrames (.invoking m args :: below)).frames = .invoking m args :: below := State.frames_setFrames _ (State.cur_lt_of_top htop)
  obtain ⟨g₀, hg0⟩ := Option.isSome_iff_exists.mp htop
  obtain ⟨r, hr⟩ := State.topJava?_eq_some.mp hg0
  have hl9 : e.platform.stackLimits (T.setVm s.vm).me = e.platform.stackLimits s.me := X.limits
  have hb9 : (T.setVm s.vm).me.stackBytes = s.me.stackBytes := X.bytes
  refine ⟨X.admits, X.cas, X.clock, hF, ?_, X.hears, X.method, X.code, X.here, X.tail, X.warmed, ?_, ?_, ?_⟩
  · have h := X.room
    have hU : ((T.setVm s.vm).setFrames (.invoking m args :: below)).localsInUse = s.localsInUse := by
      rw [State.localsInUse_invoking hF (meth := meth) (c := c) X.method X.code, State.localsInUse_invoking X.frames X.method X.code]
    simp only [State.hasRoom, Bool.and_eq_true, decide_eq_true_eq] at h ⊢
    obtain ⟨⟨⟨⟨h1, h2, h3, h4, h5, h6⟩, h7⟩, h8⟩, h9⟩ := h
    rw [X.frames, List.length_cons] at h2 h3
    have q1 := X.heapSize
    have q2 := X.used
    simp only [hF, hU, List.length_cons, State.stackLimits_setFrames, State.stackBytes_setFrames, hl9, hb9]
    refine ⟨⟨⟨⟨by omega, by omega, by omega, by omega, by omega, h6⟩, ?_⟩, ?_⟩, X.book⟩
    · show T.heap.size + R'.cells ≤ e.platform.maxCells
      omega
    · show T.slotsUsed + R'.slots ≤ e.platform.maxSlots
      omega
  · rw [State.stackLimits_setFrames]; rfl
  · rw [State.stackBytes_setFrames]; rfl
  · refine ⟨?_, Nat.le_refl _, Nat.le_refl _, ?_, ?_, fun a c9 h9 => ⟨c9, h9, rfl, rfl, fun _ _ => rfl⟩⟩
    · obtain ⟨t, ht, -⟩ := State.frames_cons hr
      show T.setVm s.vm = { ((T.setVm s.vm).setFrames (.invoking m args :: below)).setFrames (T.setVm s.vm).frames with heap := T.heap, slotsUsed := T.slotsUsed }
      rw [State.setFrames_setFrames, State.setFrames_self ht]
      rfl
    · show T.slotsUsed = T.slotsUsed + ((T.heap.toList.drop T.heap.size).map (·.slots.size)).sum
      rw [List.drop_eq_nil_of_le (Nat.le_of_eq Array.length_toList)]
      rfl
    · show ((T.heap.toList.drop T.heap.size).map (·.slots.size)).sum ≤ 0
      rw [List.drop_eq_nil_of_le (Nat.le_of_eq Array.length_toList)]
      exact Nat.le_refl _
/-- 'throw new E()': new; dup; invokespecial; athrow -/
theorem vx_throw0 {cc : ByteArray} {pc : Nat} (hexec : p.tables.exec = Jvm.exec) (hb : c.code = cc) (hl : l.stackTraces = false) {own cls : String} {names : List String} {ik ic mc ms : Nat} {A : Nat → Prop}
    (hown : s.vm.findClass own = some m.cls) (hcls : Bundle.fit cls = true) (hnames : ∀ n ∈ names, Bundle.fit n = true)
    (hk : (Cond.classLink own ik cls).before args s = true) (hini : (Cond.initialized cls).before args s = true) (hat : ∀ w ∈ vx_at0 own ic cls names, w.before args s = true)
    (hgood : ∀ w ∈ Cond.classLink own ik cls :: Cond.initialized cls :: vx_at0 own ic cls names, vx_ot w = true)
    (hU : vx_Zq Bundle.tN "UNASSIGNED_STACK" Bundle.steD A s s.heap) (hN : vx_Zq Bundle.tN "SUPPRESSED_SENTINEL" Bundle.listD A s s.heap) (hS : va_S A s.heap H locs) (hsize : ls.size = c.maxLocals)
    (d0 : decode cc pc = .ok (.new ik, 3)) (d3 : decode cc (pc + 3) = .ok (.dup, 1)) (d4 : decode cc (pc + 4) = .ok (.invokespecial ic, 3)) (d7 : decode cc (pc + 7) = .ok (.athrow, 1))
    (hout : ∀ x ∈ c.exceptionTable.toList, covers x (pc + 7) = false)
    (hRframes : names.length + 3 < R.frames) (hRlocals : (rest.map fun v => v.category).sum + (13 * (names.length + 1) + 42) ≤ R.locals) (hRcells : cells + 1 ≤ R.cells) (hRslots : slots + 6 ≤ R.slots) (hlocks : meth.locks = false)
    (hx : ∀ t : State, s.vm.Alike t.vm → H.size ≤ t.heap.size → (∀ q : Nat, q < H.size → t.heap[q]? = H[q]?) → XC cls s t)
    (hf : ∀ z ∈ locs, free z.base) (hc : cells + 1 ≤ mc) (hs : slots + 6 ≤ ms) :
    W p l e R s m args below meth c H locs cells slots (vx_MQ below Qc XC args s mc ms free) (F0 m pc ls rest) := by
  intro T hT X
  have htr : e.platform.stackTraces = false := (show e.platform.stackTraces = l.stackTraces by rw [X.admits.platform]).trans hl
  have Y := vx_rebase X (R' := { frames := R.frames, locals := R.locals, cells := 1, slots := 6 }) (Nat.le_refl _) (Nat.le_refl _) hRcells hRslots
  obtain ⟨s', hA⟩ : ∃ z, z = (T.setVm s.vm).setFrames (.invoking m args :: below) := ⟨_, rfl⟩
  rw [← hA] at Y
  have hvm : s'.vm = s.vm := by rw [hA]; rfl
  have hhp : s'.heap = H := by rw [hA]; exact hT
  have hW0 : s.WarmedH s'.vm := by rw [hvm]; exact State.WarmedH.refl s
  have hat' : ∀ w ∈ vx_at0 own ic cls names, w.before args s' = true := fun w hw => vx_ot_at hW0 hvm.symm (hgood w (List.mem_cons_of_mem _ (List.mem_cons_of_mem _ hw))) (hat w hw)
  have hk' : (Cond.classLink own ik cls).before args s' = true := vx_ot_at hW0 hvm.symm (hgood _ List.mem_cons_self) hk
  have hini' : (Cond.initialized cls).before args s' = true := vx_ot_at hW0 hvm.symm (hgood _ (List.mem_cons_of_mem _ List.mem_cons_self)) hini
  have hU' : vx_Zq Bundle.tN "UNASSIGNED_STACK" Bundle.steD A s' s'.heap := by rw [hhp]; exact vx_Zq.moved hW0.alike (hU.kept hS.2.1)
  have hN' : vx_Zq Bundle.tN "SUPPRESSED_SENTINEL" Bundle.listD A s' s'.heap := by rw [hhp]; exact vx_Zq.moved hW0.alike (hN.kept hS.2.1)
  have h : ∀ w ∈ Bundle.ownAtoms0 own ic cls names, w.before args s' = true := vx_own hat' (vx_isRefq hU'.1) (vx_isRefq hN'.1) hU'.2.word hN'.2.word
  have hown' : s'.vm.findClass own = some m.cls := by rw [hvm]; exact hown
  have hins : (Cond.instantiable cls 6).before args s' = true := h _ (by simp [Bundle.ownAtoms0])
  obtain ⟨vm₁, cX, kX, hfX, hkX, -, -, X₁, st1⟩ := Y.newCold hexec (own := own) (C := cls) (index := ik) (n := 6) hown' hk' hins hini'
    (g := F0 m pc ls rest) rfl (by rw [hb]; exact d0) (Nat.le_refl _) (Nat.le_refl _)
  generalize hT1 : (T.setVm vm₁).pushCell { cls := cX, slots := kX.instanceTypes.map defaultValue, vm := .none } = T1 at X₁ st1
  have hcat : (Value.ref T.heap.size).category = 1 := rfl
  have hcellA : T1.heap[T.heap.size]? = some (freshCell cX kX) := by rw [← hT1]; exact State.heap_pushCell_size _ _
  have d3' : decode c.code (pc + 3) = .ok (.dup, 1) := by rw [hb]; exact d3
  obtain ⟨U, hsteps, hrun, hend, hW, hsame, ce, hce, hO⟩ := X₁.ctorThrow0 hexec htr (own := own) (cls := cls) (names := names) (ic := ic) hown' hcls hnames h (fun x hx => nomatch hx) hfX hkX hcellA (by rw [hhp, hT]; exact Nat.le_refl _)
    (g := { method := m, pc := pc + 4, locals := ls, stack := .ref T.heap.size :: .ref T.heap.size :: rest, locked := none }) rfl hsize rfl rfl (rest := rest) rfl
    (by rw [hb]; exact d4) (by rw [hb]; exact d7) hout hRframes (by simp only [List.map_cons, List.sum_cons, hcat]; omega) hlocks
  obtain ⟨f1, f2⟩ := vx_frame hsame
  rw [hhp] at f1 f2
  have hWs : s.WarmedH U.vm := State.WarmedH.trans hW0 hW
  have hcl : s.vm.findClass cls = some ce.cls := by
    have h9 := hO.cls
    rw [hvm] at h9
    exact h9
  have hall : s.sameButNew ({ U with vm := s.vm } : State) locs mc ms := by
    subst hA
    obtain ⟨e1, e2⟩ := hsame
    rw [State.setFrames_setFrames] at e1
    have h2 : (T.setVm s.vm).sameButNew ({ U with vm := s.vm } : State) [] (0 + 1) (0 + 6) := ⟨e1, e2⟩
    have h3 := X.same.trans h2
    rw [List.append_nil] at h3
    exact h3.mono hc hs
  refine ⟨U, ?_, .threw T.heap.size, hrun, hend, Or.inr ⟨T.heap.size, rfl, cls, ce, locs, hx U hWs.alike f1 (fun q hq => f2 q hq (fun z hz => nomatch hz)), hce, hO.vm, hcl, hWs, hall, hf⟩⟩
  refine st1 _ ?_
  show Steps p.tables e below (T1.setTop { method := m, pc := pc + 3, locals := ls, stack := .ref T.heap.size :: rest, locked := none }) _
  jvm_step X₁.here [X₁.here.top, hexec, d3', Value.category]
  exact hsteps
/-- 'throw new E("text")': new; dup; ldc; invokespecial; athrow -/
theorem vx_throwS {cc : ByteArray} {pc : Nat} (hexec : p.tables.exec = Jvm.exec) (hb : c.code = cc) (hl : l.stackTraces = false) {own cls text : String} {names : List String} {ik is ic mc ms sa : Nat} {A : Nat → Prop}
    (hown : s.vm.findClass own = some m.cls) (hcls : Bundle.fit cls = true) (hnames : ∀ n ∈ names, Bundle.fit n = true)
    (hk : (Cond.classLink own ik cls).before args s = true) (hini : (Cond.initialized cls).before args s = true) (hstr : vk_R own is text sa s) (hat : ∀ w ∈ vx_atS own ic cls names, w.before args s = true)
    (hgood : ∀ w ∈ Cond.classLink own ik cls :: Cond.initialized cls :: vx_atS own ic cls names, vx_ot w = true)
    (hU : vx_Zq Bundle.tN "UNASSIGNED_STACK" Bundle.steD A s s.heap) (hN : vx_Zq Bundle.tN "SUPPRESSED_SENTINEL" Bundle.listD A s s.heap) (hS : va_S A s.heap H locs) (hsize : ls.size = c.maxLocals)
    (d0 : decode cc pc = .ok (.new ik, 3)) (d3 : decode cc (pc + 3) = .ok (.dup, 1)) (d4 : decode cc (pc + 4) = .ok (.ldc is, 2)) (d6 : decode cc (pc + 6) = .ok (.invokespecial ic, 3)) (d9 : decode cc (pc + 9) = .ok (.athrow, 1))
    (hout : ∀ x ∈ c.exceptionTable.toList, covers x (pc + 9) = false)
    (hRframes : names.length + 3 < R.frames) (hRlocals : (rest.map fun v => v.category).sum + (13 * (names.length + 1) + 43) ≤ R.locals) (hRcells : cells + 1 ≤ R.cells) (hRslots : slots + 6 ≤ R.slots) (hlocks : meth.locks = false)
    (hx : ∀ t : State, s.vm.Alike t.vm → H.size ≤ t.heap.size → (∀ q : Nat, q < H.size → t.heap[q]? = H[q]?) → XC cls s t)
    (hf : ∀ z ∈ locs, free z.base) (hc : cells + 1 ≤ mc) (hs : slots + 6 ≤ ms) :
    W p l e R s m args below meth c H locs cells slots (vx_MQ below Qc XC args s mc ms free) (F0 m pc ls rest) := by
  intro T hT X
  have htr : e.platform.stackTraces = false := (show e.platform.stackTraces = l.stackTraces by rw [X.admits.platform]).trans hl
  have Y := vx_rebase X (R' := { frames := R.frames, locals := R.locals, cells := 1, slots := 6 }) (Nat.le_refl _) (Nat.le_refl _) hRcells hRslots
  obtain ⟨s', hA⟩ : ∃ z, z = (T.setVm s.vm).setFrames (.invoking m args :: below) := ⟨_, rfl⟩
  rw [← hA] at Y
  have hvm : s'.vm = s.vm := by rw [hA]; rfl
  have hhp : s'.heap = H := by rw [hA]; exact hT
  have hW0 : s.WarmedH s'.vm := by rw [hvm]; exact State.WarmedH.refl s
  have hat' : ∀ w ∈ vx_atS own ic cls names, w.before args s' = true := fun w hw => vx_ot_at hW0 hvm.symm (hgood w (List.mem_cons_of_mem _ (List.mem_cons_of_mem _ hw))) (hat w hw)
  have hk' : (Cond.classLink own ik cls).before args s' = true := vx_ot_at hW0 hvm.symm (hgood _ List.mem_cons_self) hk
  have hini' : (Cond.initialized cls).before args s' = true := vx_ot_at hW0 hvm.symm (hgood _ (List.mem_cons_of_mem _ List.mem_cons_self)) hini
  have hU' : vx_Zq Bundle.tN "UNASSIGNED_STACK" Bundle.steD A s' s'.heap := by rw [hhp]; exact vx_Zq.moved hW0.alike (hU.kept hS.2.1)
  have hN' : vx_Zq Bundle.tN "SUPPRESSED_SENTINEL" Bundle.listD A s' s'.heap := by rw [hhp]; exact vx_Zq.moved hW0.alike (hN.kept hS.2.1)
  have h : ∀ w ∈ Bundle.ownAtoms own ic cls names, w.before args s' = true := vx_own hat' (vx_isRefq hU'.1) (vx_isRefq hN'.1) hU'.2.word hN'.2.word
  have hown' : s'.vm.findClass own = some m.cls := by rw [hvm]; exact hown
  have hins : (Cond.instantiable cls 6).before args s' = true := h _ (by simp [Bundle.ownAtoms])
  obtain ⟨vm₁, cX, kX, hfX, hkX, -, -, X₁, st1⟩ := Y.newCold hexec (own := own) (C := cls) (index := ik) (n := 6) hown' hk' hins hini'
    (g := F0 m pc ls rest) rfl (by rw [hb]; exact d0) (Nat.le_refl _) (Nat.le_refl _)
  generalize hT1 : (T.setVm vm₁).pushCell { cls := cX, slots := kX.instanceTypes.map defaultValue, vm := .none } = T1 at X₁ st1
  have hcat : (Value.ref T.heap.size).category = 1 := rfl
  have hcellA : T1.heap[T.heap.size]? = some (freshCell cX kX) := by rw [← hT1]; exact State.heap_pushCell_size _ _
  have d3' : decode c.code (pc + 3) = .ok (.dup, 1) := by rw [hb]; exact d3
  have d4' : decode c.code (pc + 4) = .ok (.ldc is, 2) := by rw [hb]; exact d4
  have hstr' : vk_R own is text sa s' := vk_R.warm hW0 hstr
  obtain ⟨U, hsteps, hrun, hend, hW, hsame, ce, hce, hO⟩ := X₁.ctorThrowS hexec htr (own := own) (cls := cls) (names := names) (ic := ic) hown' hcls hnames h (fun x hx => nomatch hx) hfX hkX hcellA (by rw [hhp, hT]; exact Nat.le_refl _) (msg := .ref sa) rfl
    (g := { method := m, pc := pc + 6, locals := ls, stack := .ref sa :: .ref T.heap.size :: .ref T.heap.size :: rest, locked := none }) rfl hsize rfl rfl (rest := rest) rfl
    (by rw [hb]; exact d6) (by rw [hb]; exact d9) hout hRframes (by simp only [List.map_cons, List.sum_cons, hcat]; omega) hlocks
  obtain ⟨f1, f2⟩ := vx_frame hsame
  rw [hhp] at f1 f2
  have hWs : s.WarmedH U.vm := State.WarmedH.trans hW0 hW
  have hcl : s.vm.findClass cls = some ce.cls := by
    have h9 := hO.cls
    rw [hvm] at h9
    exact h9
  have hall : s.sameButNew ({ U with vm := s.vm } : State) locs mc ms := by
    subst hA
    obtain ⟨e1, e2⟩ := hsame
    rw [State.setFrames_setFrames] at e1
    have h2 : (T.setVm s.vm).sameButNew ({ U with vm := s.vm } : State) [] (0 + 1) (0 + 6) := ⟨e1, e2⟩
    have h3 := X.same.trans h2
    rw [List.append_nil] at h3
    exact h3.mono hc hs
  refine ⟨U, ?_, .threw T.heap.size, hrun, hend, Or.inr ⟨T.heap.size, rfl, cls, ce, locs, hx U hWs.alike f1 (fun q hq => f2 q hq (fun z hz => nomatch hz)), hce, hO.vm, hcl, hWs, hall, hf⟩⟩
  refine st1 _ ?_
  show Steps p.tables e below (T1.setTop { method := m, pc := pc + 3, locals := ls, stack := .ref T.heap.size :: rest, locked := none }) _
  jvm_step X₁.here [X₁.here.top, hexec, d3', Value.category]
  exact X₁.ldcString hexec (own := own) (text := text) (index := is) (a := sa) hown' hstr'.1 hstr'.2
    (g := { method := m, pc := pc + 4, locals := ls, stack := .ref T.heap.size :: .ref T.heap.size :: rest, locked := none }) rfl d4' _ hsteps
/-- 'throw new E("text")', the text by a wide index -/
theorem vx_throwSW {cc : ByteArray} {pc : Nat} (hexec : p.tables.exec = Jvm.exec) (hb : c.code = cc) (hl : l.stackTraces = false) {own cls text : String} {names : List String} {ik is ic mc ms sa : Nat} {A : Nat → Prop}
    (hown : s.vm.findClass own = some m.cls) (hcls : Bundle.fit cls = true) (hnames : ∀ n ∈ names, Bundle.fit n = true)
    (hk : (Cond.classLink own ik cls).before args s = true) (hini : (Cond.initialized cls).before args s = true) (hstr : vk_R own is text sa s) (hat : ∀ w ∈ vx_atS own ic cls names, w.before args s = true)
    (hgood : ∀ w ∈ Cond.classLink own ik cls :: Cond.initialized cls :: vx_atS own ic cls names, vx_ot w = true)
    (hU : vx_Zq Bundle.tN "UNASSIGNED_STACK" Bundle.steD A s s.heap) (hN : vx_Zq Bundle.tN "SUPPRESSED_SENTINEL" Bundle.listD A s s.heap) (hS : va_S A s.heap H locs) (hsize : ls.size = c.maxLocals)
    (d0 : decode cc pc = .ok (.new ik, 3)) (d3 : decode cc (pc + 3) = .ok (.dup, 1)) (d4 : decode cc (pc + 4) = .ok (.ldc_w is, 3)) (d7 : decode cc (pc + 7) = .ok (.invokespecial ic, 3)) (d10 : decode cc (pc + 10) = .ok (.athrow, 1))
    (hout : ∀ x ∈ c.exceptionTable.toList, covers x (pc + 10) = false)
    (hRframes : names.length + 3 < R.frames) (hRlocals : (rest.map fun v => v.category).sum + (13 * (names.length + 1) + 43) ≤ R.locals) (hRcells : cells + 1 ≤ R.cells) (hRslots : slots + 6 ≤ R.slots) (hlocks : meth.locks = false)
    (hx : ∀ t : State, s.vm.Alike t.vm → H.size ≤ t.heap.size → (∀ q : Nat, q < H.size → t.heap[q]? = H[q]?) → XC cls s t)
    (hf : ∀ z ∈ locs, free z.base) (hc : cells + 1 ≤ mc) (hs : slots + 6 ≤ ms) :
    W p l e R s m args below meth c H locs cells slots (vx_MQ below Qc XC args s mc ms free) (F0 m pc ls rest) := by
  intro T hT X
  have htr : e.platform.stackTraces = false := (show e.platform.stackTraces = l.stackTraces by rw [X.admits.platform]).trans hl
  have Y := vx_rebase X (R' := { frames := R.frames, locals := R.locals, cells := 1, slots := 6 }) (Nat.le_refl _) (Nat.le_refl _) hRcells hRslots
  obtain ⟨s', hA⟩ : ∃ z, z = (T.setVm s.vm).setFrames (.invoking m args :: below) := ⟨_, rfl⟩
  rw [← hA] at Y
  have hvm : s'.vm = s.vm := by rw [hA]; rfl
  have hhp : s'.heap = H := by rw [hA]; exact hT
  have hW0 : s.WarmedH s'.vm := by rw [hvm]; exact State.WarmedH.refl s
  have hat' : ∀ w ∈ vx_atS own ic cls names, w.before args s' = true := fun w hw => vx_ot_at hW0 hvm.symm (hgood w (List.mem_cons_of_mem _ (List.mem_cons_of_mem _ hw))) (hat w hw)
  have hk' : (Cond.classLink own ik cls).before args s' = true := vx_ot_at hW0 hvm.symm (hgood _ List.mem_cons_self) hk
  have hini' : (Cond.initialized cls).before args s' = true := vx_ot_at hW0 hvm.symm (hgood _ (List.mem_cons_of_mem _ List.mem_cons_self)) hini
  have hU' : vx_Zq Bundle.tN "UNASSIGNED_STACK" Bundle.steD A s' s'.heap := by rw [hhp]; exact vx_Zq.moved hW0.alike (hU.kept hS.2.1)
  have hN' : vx_Zq Bundle.tN "SUPPRESSED_SENTINEL" Bundle.listD A s' s'.heap := by rw [hhp]; exact vx_Zq.moved hW0.alike (hN.kept hS.2.1)
  have h : ∀ w ∈ Bundle.ownAtoms own ic cls names, w.before args s' = true := vx_own hat' (vx_isRefq hU'.1) (vx_isRefq hN'.1) hU'.2.word hN'.2.word
  have hown' : s'.vm.findClass own = some m.cls := by rw [hvm]; exact hown
  have hins : (Cond.instantiable cls 6).before args s' = true := h _ (by simp [Bundle.ownAtoms])
  obtain ⟨vm₁, cX, kX, hfX, hkX, -, -, X₁, st1⟩ := Y.newCold hexec (own := own) (C := cls) (index := ik) (n := 6) hown' hk' hins hini'
    (g := F0 m pc ls rest) rfl (by rw [hb]; exact d0) (Nat.le_refl _) (Nat.le_refl _)
  generalize hT1 : (T.setVm vm₁).pushCell { cls := cX, slots := kX.instanceTypes.map defaultValue, vm := .none } = T1 at X₁ st1
  have hcat : (Value.ref T.heap.size).category = 1 := rfl
  have hcellA : T1.heap[T.heap.size]? = some (freshCell cX kX) := by rw [← hT1]; exact State.heap_pushCell_size _ _
  have d3' : decode c.code (pc + 3) = .ok (.dup, 1) := by rw [hb]; exact d3
  have d4' : decode c.code (pc + 4) = .ok (.ldc_w is, 3) := by rw [hb]; exact d4
  have hstr' : vk_R own is text sa s' := vk_R.warm hW0 hstr
  obtain ⟨U, hsteps, hrun, hend, hW, hsame, ce, hce, hO⟩ := X₁.ctorThrowS hexec htr (own := own) (cls := cls) (names := names) (ic := ic) hown' hcls hnames h (fun x hx => nomatch hx) hfX hkX hcellA (by rw [hhp, hT]; exact Nat.le_refl _) (msg := .ref sa) rfl
    (g := { method := m, pc := pc + 7, locals := ls, stack := .ref sa :: .ref T.heap.size :: .ref T.heap.size :: rest, locked := none }) rfl hsize rfl rfl (rest := rest) rfl
    (by rw [hb]; exact d7) (by rw [hb]; exact d10) hout hRframes (by simp only [List.map_cons, List.sum_cons, hcat]; omega) hlocks
  obtain ⟨f1, f2⟩ := vx_frame hsame
  rw [hhp] at f1 f2
  have hWs : s.WarmedH U.vm := State.WarmedH.trans hW0 hW
  have hcl : s.vm.findClass cls = some ce.cls := by
    have h9 := hO.cls
    rw [hvm] at h9
    exact h9
  have hall : s.sameButNew ({ U with vm := s.vm } : State) locs mc ms := by
    subst hA
    obtain ⟨e1, e2⟩ := hsame
    rw [State.setFrames_setFrames] at e1
    have h2 : (T.setVm s.vm).sameButNew ({ U with vm := s.vm } : State) [] (0 + 1) (0 + 6) := ⟨e1, e2⟩
    have h3 := X.same.trans h2
    rw [List.append_nil] at h3
    exact h3.mono hc hs
  refine ⟨U, ?_, .threw T.heap.size, hrun, hend, Or.inr ⟨T.heap.size, rfl, cls, ce, locs, hx U hWs.alike f1 (fun q hq => f2 q hq (fun z hz => nomatch hz)), hce, hO.vm, hcl, hWs, hall, hf⟩⟩
  refine st1 _ ?_
  show Steps p.tables e below (T1.setTop { method := m, pc := pc + 3, locals := ls, stack := .ref T.heap.size :: rest, locked := none }) _
  jvm_step X₁.here [X₁.here.top, hexec, d3', Value.category]
  exact X₁.ldcStringW hexec (own := own) (text := text) (index := is) (a := sa) hown' hstr'.1 hstr'.2
    (g := { method := m, pc := pc + 4, locals := ls, stack := .ref T.heap.size :: .ref T.heap.size :: rest, locked := none }) rfl d4' _ hsteps
end Ends
section Bodies
variable {l : Launch}
theorem vx_ofW {y : MethodName} {ws ws' : List Cond} {rm : Room} {Pc : Array Value → State → Prop} {Qc : Array Value → State → Outcome → State → Prop} {XC : String → State → State → Prop} {mc ms : Nat} {free : Addr → Prop} {cc : ByteArray} {maxL : Nat} {ret : Option FieldType}
    (hy : plainName y.cls = true) (hw : ws = Cond.code y cc maxL ret :: ws')
    (body : ∀ p e s m args below meth c s₁, BodyLoose p l y (headSpec ws rm) cc maxL ret e s m args below meth c s₁ → c.maxLocals = maxL → (∀ x ∈ c.exceptionTable.toList, False) → Pc args s →
      W p l e (headSpec ws rm).room s m args below meth c s.heap [] 0 0 (vx_MQ below Qc XC args s mc ms free) (entryFrame m args maxL)) : vx_Met l y ws rm Pc Qc XC mc ms free := by
  refine MetFree.of_bodyS (code := cc) (maxLocals := maxL) (ret := ret) hy ?_ ?_
  · intro args s m h hn
    obtain ⟨meth, c, h1, h2, h3, h4, h5, h6, -, -⟩ := Cond.code_spec hn (atoms_spec (ws := ws) h _ (by rw [hw]; exact List.mem_cons_self))
    exact ⟨meth, c, h1, h2, h3, h4, h5, h6⟩
  · intro p e s m args below meth c s₁ B hml hP _
    have hh0 : s₁.heap = s.heap := by rw [B.state]; rfl
    have ht : ∀ x ∈ c.exceptionTable.toList, False := by
      obtain ⟨meth9, c9, h1, h2, -, -, -, -, h7, -⟩ := Cond.code_spec B.named (atoms_spec (ws := ws) B.pre _ (by rw [hw]; exact List.mem_cons_self))
      cases Option.some.inj (h1.symm.trans B.method)
      cases Option.some.inj (h2.symm.trans (Stand.of_body B).code)
      intro x hx
      rw [Array.isEmpty_iff.mp h7] at hx
      cases hx
    obtain ⟨t, a1, o, b1, b2, b3⟩ := body p e s m args below meth c s₁ B hml ht hP s₁ hh0 (Stand.of_body B)
    exact ⟨t, o, a1, b1, b2, b3⟩
/-- the table of a body with handlers -/
theorem vx_table {p : Program} {x y : MethodName} {S : Spec} {cc bytes : ByteArray} {maxL maxL' : Nat} {ret ret' : Option FieldType} {e : Env} {s s₁ : State} {m : MethodId} {args : Array Value} {below : List Frame} {meth : Method} {c : Code} {hh : List (Nat × Nat × Nat × Nat)}
    (B : BodyLoose p l y S cc maxL ret e s m args below meth c s₁) (h : (Cond.codeWith y bytes maxL' ret' hh).before args s = true) : c.exceptionTable.toList = tableOf hh := by
  obtain ⟨m9, meth9, c9, hn9, h1, h2, -, -, h6, -⟩ := Cond.codeWith_spec h
  cases Option.some.inj (hn9.symm.trans B.named)
  cases Option.some.inj (h1.symm.trans B.method)
  cases Option.some.inj (h2.symm.trans (Stand.of_body B).code)
  rw [← h6, table_eq]
end Bodies
end VXA
/-! ===== END ===== -/
/-! ===== BEGIN a static call of a method with an exception table ===== -/
section VXS
variable {p : Program} {l : Launch} {e : Env} {R : Room} {s : State} {m : MethodId} {args : Array Value} {below : List Frame} {meth : Method} {c : Code} {T : State} {H : Heap} {locs : List Loc} {cells slots : Nat}
abbrev vx_CSW (R : Room) (s : State) (args : Array Value) (own : String) (index : Nat) (y : MethodName) (bytes : ByteArray) (maxL : Nat) (ret : Option FieldType) (hh : List (Nat × Nat × Nat × Nat)) (ws : List Cond) (rm : Room) (mc ms n : Nat) : Prop :=
  (rm.cells = mc ∧ rm.slots = ms ∧ rm.frames + 1 ≤ R.frames ∧ 8 + (maxL + 11) + rm.locals ≤ R.locals ∧ (∀ w ∈ ws, ∀ (a' : Array Value) (U : State), s.WarmedH U.vm → w.before a' U = true) ∧ Cond.codeWith y bytes maxL ret hh ∈ ws) ∧
  (Cond.codeWith y bytes maxL ret hh).before args s = true ∧ (Cond.initialized y.cls).before args s = true ∧ (y.cls ≠ "java/lang/invoke/MethodHandle" ∧ y.cls ≠ "java/lang/invoke/VarHandle") ∧
  (∀ sig, parseMethodDescriptor y.desc = some sig → n = sig.parameters.length) ∧ (Cond.methodLink own index y).before args s = true ∧ (Cond.static y).before args s = true
theorem vx_cwSW {own : String} {index maxL mc ms : Nat} {y : MethodName} {bytes : ByteArray} {ret : Option FieldType} {hh : List (Nat × Nat × Nat × Nat)} {Ts ws ws' : List Cond} {rm : Room} (n : Nat) (ht : ∀ w ∈ Ts, w.before args s = true) (hT : GoodIn Ts (va_wsS own index y ws)) (hw : ws = Cond.codeWith y bytes maxL ret hh :: ws') (hrc : rm.cells = mc) (hrs : rm.slots = ms)
    (hd : y.cls ≠ "java/lang/invoke/MethodHandle" ∧ y.cls ≠ "java/lang/invoke/VarHandle" ∧ (parseMethodDescriptor y.desc).map (fun d => d.parameters.length) = some n) (hR : rm.frames + 1 ≤ R.frames ∧ 8 + (maxL + 11) + rm.locals ≤ R.locals) :
    vx_CSW R s args own index y bytes maxL ret hh ws rm mc ms n := by
  have ok : ∀ w ∈ va_wsS own index y ws, w.before args s = true := fun w h => ht w (hT w h).1
  have hG : GoodIn Ts ws := fun w h => hT w (by unfold va_wsS; exact List.mem_append_right _ h)
  have hc : Cond.codeWith y bytes maxL ret hh ∈ ws := by rw [hw]; exact List.mem_cons_self
  refine ⟨⟨hrc, hrs, hR.1, hR.2, pay_in ht hG, hc⟩, ht _ (hG _ hc).1, ok _ (by simp [va_wsS]), ⟨hd.1, hd.2.1⟩, fun sig h => ?_, ok _ (by simp [va_wsS]), ok _ (by simp [va_wsS])⟩
  have h2 := hd.2.2
  rw [h] at h2
  exact (Option.some.inj h2).symm
theorem vx_callSW (X : Stand p l e R s m args below meth c T locs cells slots) (hexec : p.tables.exec = Jvm.exec) {own : String} {index : Nat} {y : MethodName} {bytes : ByteArray} {maxL : Nat} {ret : Option FieldType} {hh : List (Nat × Nat × Nat × Nat)}
    (hown : s.vm.findClass own = some m.cls) (hlink : (Cond.methodLink own index y).before args s = true) (hstat : (Cond.static y).before args s = true) (hinit : (Cond.initialized y.cls).before args s = true)
    (hcode : (Cond.codeWith y bytes maxL ret hh).before args s = true) (hy : y.cls ≠ "java/lang/invoke/MethodHandle" ∧ y.cls ≠ "java/lang/invoke/VarHandle")
    {W9 : Nat} {Pre : Pt → Array Value → Prop} {Post : Pt → Array Value → Option Value → Pt → Prop} (hK : Back l R p e below s args y 3 W9 Pre Post)
    {g : JFrame} (hg : g.method = m) (hsize : g.locals.size = c.maxLocals) {argsL rest : List Value} (hlen : ∀ sig, parseMethodDescriptor y.desc = some sig → argsL.length = sig.parameters.length)
    (hstack : g.stack = argsL.reverse ++ rest) (hW : 2 * g.monitorRoom + (rest.map fun v => v.category).sum ≤ W9) (hdg : decode c.code g.pc = .ok (.invokestatic index, 3))
    (hpre : ∀ vm₁, s.WarmedH vm₁ → Pre ⟨T.setVm vm₁, locs, cells, slots⟩ argsL.toArray) :
    ∃ (v : Option Value) (vm₁ : Vm) (B : Pt), s.WarmedH vm₁ ∧ Stand p l e R s m args below meth c B.U B.locs B.cells B.slots ∧ Post ⟨T.setVm vm₁, locs, cells, slots⟩ argsL.toArray v B ∧
      ∀ target, Steps p.tables e below (B.U.setTop { g with pc := g.pc + 3, stack := v.toList ++ rest }) target → Steps p.tables e below (T.setTop g) target := by
  obtain ⟨mk, methM, cM, hnamed, hmethM, -, -, -, -, -, -, hsigM⟩ := Cond.codeWith_spec hcode
  have hstatic : methM.isStatic = true := Cond.static_spec hnamed hmethM hstat
  obtain ⟨kP, hkP, -⟩ := className_of_methodNamed hnamed
  have hinitP : kP.init = .initialized := Cond.initialized_spec (findClass_of_methodNamed hnamed) hkP hinit
  obtain ⟨vm₁, X₁, hstep₁⟩ := X.invokestatic hexec hown hlink hnamed hmethM hstatic hkP hinitP hy (g := g) hg (argsL := argsL) (rest := rest) (hlen _ hsigM) hstack hdg
  obtain ⟨v, B, X', hpost, hsteps⟩ := hK m meth c ⟨T.setVm vm₁, locs, cells, slots⟩ { g with stack := rest } (.invokestatic index) mk argsL.toArray X₁ hg hsize hdg hW (X₁.named hnamed) (hpre vm₁ X₁.warmed)
  exact ⟨v, vm₁, B, X₁.warmed, X', hpost, fun target h => hstep₁ _ fun acts => by rw [doInvoke_state]; exact hsteps.trans h⟩
theorem vx_runSW {y : MethodName} {bytes cc : ByteArray} {maxL nL mc ms n index : Nat} {ret : Option FieldType} {hh : List (Nat × Nat × Nat × Nat)} {ws : List Cond} {rm : Room} {Pc : Array Value → State → Prop} {Qc : Array Value → State → Outcome → State → Prop} {free : Addr → Prop} {Ts : List Cond} {own : String} {As rest : List Value} {g : JFrame}
    (S : CallFix p m c cc nL s args Ts own) (hM : Met l y ws rm Pc Qc mc ms free) (cw : vx_CSW R s args own index y bytes maxL ret hh ws rm mc ms n) (hp : PreS s H Pc As)
    (hg : g.method = m) (hn : As.length = n) (hsize : g.locals.size = nL) (hstack : g.stack = As.reverse ++ rest) (hW : 2 * g.monitorRoom + (rest.map fun v => v.category).sum ≤ 8) (hdg : decode cc g.pc = .ok (.invokestatic index, 3)) (hf : cells + mc ≤ R.cells ∧ slots + ms ≤ R.slots) :
    va_Run p l e R s m args below meth c H locs cells slots mc ms g rest (Qc As.toArray) (free) := by
  obtain ⟨⟨hrc, hrs, hfr, hlo, hws, hcw⟩, hcode, hini, hy, hlen, hl, hstt⟩ := cw
  have hK : Back l R p e below s args y 3 8 (PreOf R mc ms Pc) (PostOf Qc mc ms free) := va_backW (hh := hh) (bytes := bytes) (maxL := maxL) (ret := ret) hM hp.1 hrc hrs hfr hlo hws hcw (fun a' U hW => word_at hW (Or.inl (by first | rfl | simp [Cond.onTables, Cond.keeps, Cond.steady])) hini)
  obtain ⟨hx, hb, hml, ho, -⟩ := S
  intro T hT X
  obtain ⟨v, vm₁, ⟨U', l2, c2, s2⟩, hW₁, X', ⟨g', mk, t, L, e1, e2, hq, h1, hL, h2, h3⟩, st⟩ := vx_callSW X hx (hh := hh) (bytes := bytes) (maxL := maxL) (ret := ret) ho hl hstt hini hcode hy hK hg (hsize.trans hml.symm) (argsL := As) (rest := rest) (fun sig h => hn.trans (hlen sig h)) hstack hW (by rw [hb]; exact hdg)
    (fun vm₁ hW₁ => ⟨hf.1, hf.2, hp.2 (T.setVm vm₁) hT hW₁⟩)
  dsimp only [Pt.U, Pt.locs, Pt.cells, Pt.slots] at X' e1 e2 h1 h2 h3 st
  subst h1; subst h2; subst h3
  exact ⟨v, (T.setVm vm₁).calling g' mk As.toArray, t, U', L, hT, X', hL, e1, e2, hq, st⟩
/-- a thing of a world lies in the heap -/
theorem vx_lt {D : va_G} {cl : List vw_C} {ws : va_W} {H1 : Heap} (h : va_P D cl ws H1) {k : Nat} {q : Nat × va_E} (hk : ws[k]? = some q) : q.1 < H1.size := (h k q hk).lt
end VXS
/-! ===== END ===== -/
/-! ===== BEGIN methods with a table of their own: called by a name, returning or throwing ===== -/
section VXH
/-! vx_backW, vx_callVX, vx_callSX, vx_callVW, vx_runVW, vx_runVX, vx_runSX, vx_ofWH follow the same proofs as their sisters above (Free/Laws.lean, Shelf42/LK1.lean); vx_outP calls Shelf42/NT130.lean (outThrough). -/
section
variable {l : Launch} {R : Room} {p : Program} {e : Env} {below : List Frame} {s : State} {sargs : Array Value} {y : MethodName} {len W9 : Nat}
theorem vx_backW {ws : List Cond} {rm : Room} {Pc : Array Value → State → Prop} {Qc : Array Value → State → Outcome → State → Prop} {XC : String → State → State → Prop} {mc ms : Nat} {free : Addr → Prop} {bytes : ByteArray} {maxL : Nat} {ret : Option FieldType} {hh : List (Nat × Nat × Nat × Nat)}
    (hM : vx_Met l y ws rm Pc Qc XC mc ms free) (hblind : FrameBlind Pc) (hrc : rm.cells = mc) (hrs : rm.slots = ms)
    (hframes : rm.frames + 1 ≤ R.frames) (hlocals : W9 + (maxL + 11) + rm.locals ≤ R.locals)
    (hws : ∀ w ∈ ws, ∀ a' U, s.WarmedH U.vm → w.before a' U = true) (hcode : Cond.codeWith y bytes maxL ret hh ∈ ws) (hinit : ∀ a' U, s.WarmedH U.vm → (Cond.initialized y.cls).before a' U = true) :
    vx_Back l R p e below s sargs y len W9 (PreOf R mc ms Pc) (PostOf Qc mc ms free) (vx_Post XC mc ms free) := by
  intro m meth c A g ig mk a X hg hsize hdg hW hn hp
  have h1 : (headSpec ws rm).pre.before a A.U = true := atoms_intro fun w hw => hws w hw _ _ X.warmed
  have h2 : (Cond.codeWith y bytes maxL ret hh).before a A.U = true := hws _ hcode _ _ X.warmed
  have h3 : (Cond.initialized y.cls).before a A.U = true := hinit _ _ X.warmed
  have h4 : A.cells + (headSpec ws rm).room.cells ≤ R.cells := by rw [show (headSpec ws rm).room.cells = mc from hrc]; exact hp.1
  have h5 : A.slots + (headSpec ws rm).room.slots ≤ R.slots := by rw [show (headSpec ws rm).room.slots = ms from hrs]; exact hp.2.1
  have hPc : Pc a (A.U.calling g mk a) := hblind _ _ _ _ hp.2.2
  obtain ⟨U, Ls, c0, s0⟩ := A
  dsimp only [Pt.U, Pt.locs, Pt.cells, Pt.slots] at h1 h2 h3 h4 h5 X hn hPc ⊢
  obtain ⟨m9, methY, cY, hn9, hmY, hcY, -, hlY, -⟩ := Cond.codeWith_spec h2
  cases Option.some.inj (hn9.symm.trans hn)
  obtain ⟨kY, hkY, -⟩ := className_of_methodNamed hn
  have hinitY : kY.init = .initialized := Cond.initialized_spec (findClass_of_methodNamed hn) hkY h3
  have h : At U g.method c below := by rw [hg]; exact X.here
  have hlocals9 : W9 + (maxL + 11) + (headSpec ws rm).room.locals ≤ R.locals := hlocals
  have happ : (headSpec ws rm).appliesLoose y e.platform (U.calling g mk a) = true :=
    Spec.appliesLoose_calling (g := g) h hdg hn hkY hinitY
      (X.room_calling (g := g) (R' := (headSpec ws rm).room) hsize hmY hcY hframes (by rw [hlY]; omega) h4 h5) h1
  obtain ⟨mid, hmid⟩ := h.above
  have hfr : (U.setTop g).frames = (.java g :: mid) ++ below := by rw [State.frames_setTop' g h.top, hmid]; rfl
  obtain ⟨o, s₂, hsteps, -, hend, hq⟩ := Steps.callFree hM p X.admits X.cas X.clock (acts := []) hfr happ hPc trivial
  have hq' : vx_Q Qc XC mc ms free a (U.calling g mk a) o s₂ := hq
  rw [State.frames_setTop' g h.top] at hend
  obtain ⟨g₀, hg0⟩ := Option.isSome_iff_exists.mp h.top
  obtain ⟨r, hr⟩ := State.topJava?_eq_some.mp hg0
  have hr' : (({ U with heap := s₂.heap, slotsUsed := s₂.slotsUsed } : State).setVm s₂.vm).frames = .java g₀ :: r := hr
  rcases hq' with ⟨hqc, L, hfe, hL⟩ | ⟨q, rfl, E, ce, L, hx, hce, hcv, hcl, hW₂, hsm, hL⟩
  · obtain ⟨⟨v, rfl⟩, hW₂, e2, q2, q3, q4, q5, q6⟩ := id hfe
    have e3 : s₂ = ({ (U.calling g mk a).setFrames s₂.frames with heap := s₂.heap, slotsUsed := s₂.slotsUsed } : State).setVm s₂.vm := by
      have : s₂ = ({ s₂ with vm := (U.calling g mk a).vm } : State).setVm s₂.vm := rfl
      rw [e2] at this
      exact this
    obtain ⟨c₂, i₂, len₂, hc₂, hd₂, hf₂⟩ := hend
    have hW' : U.WarmedH s₂.vm := hW₂
    have hcc : c₂ = c := by
      have h1 : s₂.code? g.method = U.code? g.method := by
        rw [State.code?_eq, State.code?_eq, hW'.alike.method?]
      exact Option.some.inj (hc₂.symm.trans (h1.trans h.code))
    subst hcc
    have hlen : len₂ = len := by rw [hdg] at hd₂; cases hd₂; rfl
    subst hlen
    have hs₂ : s₂ = (({ U with heap := s₂.heap, slotsUsed := s₂.slotsUsed } : State).setVm s₂.vm).setTop { g with pc := g.pc + len₂, stack := v.toList ++ g.stack } := by
      refine e3.trans ?_
      rw [hf₂, State.calling_eq h.top, State.setFrames_setFrames, State.setTop_of_frames _ hr', hr]
      rfl
    have hsame : U.sameButNew ({ U with heap := s₂.heap, slotsUsed := s₂.slotsUsed } : State) L mc ms := by
      refine ⟨?_, q2, q3, q4, q5, q6⟩
      obtain ⟨t, ht, -⟩ := State.frames_cons hr
      show ({ U with heap := s₂.heap, slotsUsed := s₂.slotsUsed } : State) = { U.setFrames U.frames with heap := s₂.heap, slotsUsed := s₂.slotsUsed }
      rw [State.setFrames_self ht]
    subst hg
    refine Or.inl ⟨v, ⟨(({ U with heap := s₂.heap, slotsUsed := s₂.slotsUsed } : State).setVm s₂.vm), Ls ++ L, c0 + mc, s0 + ms⟩,
      ⟨X.admits, X.cas, X.clock, X.frames, X.room, X.hears, X.method, X.code, (X.here.setHeapUsed s₂.heap s₂.slotsUsed).setVm hW'.alike, X.tail, State.WarmedH.trans X.warmed hW', X.limits, X.bytes, X.same.trans (hsame.setVm s.vm)⟩,
      ⟨g, mk, s₂, L, rfl, rfl, hqc, rfl, hL, rfl, rfl⟩, ?_⟩
    show Steps p.tables e below _ ((({ U with heap := s₂.heap, slotsUsed := s₂.slotsUsed } : State).setVm s₂.vm).setTop { g with pc := g.pc + len₂, stack := v.toList ++ g.stack })
    rw [← hs₂]
    exact hsteps
  · obtain ⟨e2, q2, q3, q4, q5, q6⟩ := id hsm
    have e3 : s₂ = ({ (U.calling g mk a).setFrames s₂.frames with heap := s₂.heap, slotsUsed := s₂.slotsUsed } : State).setVm s₂.vm := by
      have : s₂ = ({ s₂ with vm := (U.calling g mk a).vm } : State).setVm s₂.vm := rfl
      rw [e2] at this
      exact this
    have hf₂ : s₂.frames = .throwing q :: .java g :: U.frames.tail := hend
    have hW' : U.WarmedH s₂.vm := hW₂
    have hs₂ : s₂ = ((({ U with heap := s₂.heap, slotsUsed := s₂.slotsUsed } : State).setVm s₂.vm).setTop g).pushFrame (.throwing q) := by
      refine e3.trans ?_
      rw [hf₂, State.calling_eq h.top, State.setFrames_setFrames, State.pushFrame, State.frames_setTop _ hr', State.setTop_of_frames _ hr', State.setFrames_setFrames, hr]
      rfl
    have hsame : U.sameButNew ({ U with heap := s₂.heap, slotsUsed := s₂.slotsUsed } : State) L mc ms := by
      refine ⟨?_, q2, q3, q4, q5, q6⟩
      obtain ⟨t, ht, -⟩ := State.frames_cons hr
      show ({ U with heap := s₂.heap, slotsUsed := s₂.slotsUsed } : State) = { U.setFrames U.frames with heap := s₂.heap, slotsUsed := s₂.slotsUsed }
      rw [State.setFrames_self ht]
    subst hg
    refine Or.inr ⟨q, ⟨(({ U with heap := s₂.heap, slotsUsed := s₂.slotsUsed } : State).setVm s₂.vm), Ls ++ L, c0 + mc, s0 + ms⟩,
      ⟨X.admits, X.cas, X.clock, X.frames, X.room, X.hears, X.method, X.code, (X.here.setHeapUsed s₂.heap s₂.slotsUsed).setVm hW'.alike, X.tail, State.WarmedH.trans X.warmed hW', X.limits, X.bytes, X.same.trans (hsame.setVm s.vm)⟩,
      ⟨g, mk, s₂, L, E, ce, rfl, rfl, hx, hce, hcv, hcl, rfl, hL, rfl, rfl⟩, ?_⟩
    show Steps p.tables e below _ (((({ U with heap := s₂.heap, slotsUsed := s₂.slotsUsed } : State).setVm s₂.vm).setTop g).pushFrame (.throwing q))
    rw [← hs₂]
    exact hsteps
end
variable {p : Program} {l : Launch} {e : Env} {R : Room} {s : State} {m : MethodId} {args : Array Value} {below : List Frame} {meth : Method} {c : Code} {T : State} {H : Heap} {locs : List Loc} {cells slots : Nat}
theorem vx_callVX (X : Stand p l e R s m args below meth c T locs cells slots) (hexec : p.tables.exec = Jvm.exec) {own C : String} {index : Nat} {y : MethodName} {bytes : ByteArray} {maxL : Nat} {ret : Option FieldType} {hh : List (Nat × Nat × Nat × Nat)}
    (hown : s.vm.findClass own = some m.cls) (hlink : (Cond.methodLink own index y).before args s = true) (hinst : (Cond.instanceMethod y).before args s = true) (hsel : (Cond.selects C y y).before args s = true)
    (hcode : (Cond.codeWith y bytes maxL ret hh).before args s = true) (hy : y.cls ≠ "java/lang/invoke/MethodHandle" ∧ y.cls ≠ "java/lang/invoke/VarHandle")
    {W9 : Nat} {Pre : Pt → Array Value → Prop} {Post : Pt → Array Value → Option Value → Pt → Prop} {PostX : Pt → Array Value → Addr → Pt → Prop} (hK : vx_Back l R p e below s args y 3 W9 Pre Post PostX)
    {b : Addr} {cellB : Cell} (hcell : T.heap[b]? = some cellB) (hobj : cellB.vm.isStatics = false) (hcls : s.vm.findClass C = some cellB.cls)
    {g : JFrame} (hg : g.method = m) (hsize : g.locals.size = c.maxLocals) {argsL rest : List Value} (hlen : ∀ sig, parseMethodDescriptor y.desc = some sig → argsL.length = sig.parameters.length)
    (hstack : g.stack = argsL.reverse ++ .ref b :: rest) (hW : 2 * g.monitorRoom + (rest.map fun v => v.category).sum ≤ W9) (hdg : decode c.code g.pc = .ok (.invokevirtual index, 3))
    (hpre : ∀ vm₁, s.WarmedH vm₁ → Pre ⟨T.setVm vm₁, locs, cells, slots⟩ (Value.ref b :: argsL).toArray) :
    (∃ (v : Option Value) (vm₁ : Vm) (B : Pt), s.WarmedH vm₁ ∧ Stand p l e R s m args below meth c B.U B.locs B.cells B.slots ∧ Post ⟨T.setVm vm₁, locs, cells, slots⟩ (Value.ref b :: argsL).toArray v B ∧
      ∀ target, Steps p.tables e below (B.U.setTop { g with pc := g.pc + 3, stack := v.toList ++ rest }) target → Steps p.tables e below (T.setTop g) target) ∨
    (∃ (q : Addr) (vm₁ : Vm) (B : Pt), s.WarmedH vm₁ ∧ Stand p l e R s m args below meth c B.U B.locs B.cells B.slots ∧ PostX ⟨T.setVm vm₁, locs, cells, slots⟩ (Value.ref b :: argsL).toArray q B ∧
      Steps p.tables e below (T.setTop g) ((B.U.setTop { g with stack := rest }).pushFrame (.throwing q))) := by
  obtain ⟨mk, methM, hnamed, hmethM, hstM, habM⟩ := Cond.instanceMethod_spec hinst
  obtain ⟨m8, methM', cM, hn8, hmethM', -, -, -, -, -, -, hsigM⟩ := Cond.codeWith_spec hcode
  cases Option.some.inj (hn8.symm.trans hnamed)
  cases hmethM.symm.trans hmethM'
  obtain ⟨c2, r2, m2, q1, q2, q3, q4, kP, hkP, hkPi⟩ := Cond.selects_spec hsel
  cases hcls.symm.trans q1
  cases (State.methodFound?_of_named hnamed hy).symm.trans q2
  cases hnamed.symm.trans q3
  have hselP : selectMethod e.platform s.vm cellB.cls mk = .method mk := by rw [Launch.admits_selectMethod X.admits]; exact q4
  obtain ⟨vm₁, X₁, hstep₁⟩ := X.invokevirtual hexec hown hlink hnamed hmethM hstM hkP hkPi hy (a := b) (cell := cellB) hcell
    (fun z h => by rw [h] at hobj; cases hobj) hselP hmethM habM hkP hkPi (g := g) hg (argsL := argsL) (rest := rest) (hlen _ hsigM) hstack hdg
  rcases hK m meth c ⟨T.setVm vm₁, locs, cells, slots⟩ { g with stack := rest } (.invokevirtual index) mk (Value.ref b :: argsL).toArray X₁ hg hsize hdg hW (X₁.named hnamed) (hpre vm₁ X₁.warmed) with ⟨v, B, X', hpost, hsteps⟩ | ⟨q, B, X', hpost, hsteps⟩
  · exact Or.inl ⟨v, vm₁, B, X₁.warmed, X', hpost, fun target h => hstep₁ _ fun acts => by rw [doInvoke_state]; exact hsteps.trans h⟩
  · exact Or.inr ⟨q, vm₁, B, X₁.warmed, X', hpost, hstep₁ _ fun acts => by rw [doInvoke_state]; exact hsteps⟩
theorem vx_callSX (X : Stand p l e R s m args below meth c T locs cells slots) (hexec : p.tables.exec = Jvm.exec) {own : String} {index : Nat} {y : MethodName} {bytes : ByteArray} {maxL : Nat} {ret : Option FieldType} {hh : List (Nat × Nat × Nat × Nat)}
    (hown : s.vm.findClass own = some m.cls) (hlink : (Cond.methodLink own index y).before args s = true) (hstat : (Cond.static y).before args s = true) (hinit : (Cond.initialized y.cls).before args s = true)
    (hcode : (Cond.codeWith y bytes maxL ret hh).before args s = true) (hy : y.cls ≠ "java/lang/invoke/MethodHandle" ∧ y.cls ≠ "java/lang/invoke/VarHandle")
    {W9 : Nat} {Pre : Pt → Array Value → Prop} {Post : Pt → Array Value → Option Value → Pt → Prop} {PostX : Pt → Array Value → Addr → Pt → Prop} (hK : vx_Back l R p e below s args y 3 W9 Pre Post PostX)
    {g : JFrame} (hg : g.method = m) (hsize : g.locals.size = c.maxLocals) {argsL rest : List Value} (hlen : ∀ sig, parseMethodDescriptor y.desc = some sig → argsL.length = sig.parameters.length)
    (hstack : g.stack = argsL.reverse ++ rest) (hW : 2 * g.monitorRoom + (rest.map fun v => v.category).sum ≤ W9) (hdg : decode c.code g.pc = .ok (.invokestatic index, 3))
    (hpre : ∀ vm₁, s.WarmedH vm₁ → Pre ⟨T.setVm vm₁, locs, cells, slots⟩ argsL.toArray) :
    (∃ (v : Option Value) (vm₁ : Vm) (B : Pt), s.WarmedH vm₁ ∧ Stand p l e R s m args below meth c B.U B.locs B.cells B.slots ∧ Post ⟨T.setVm vm₁, locs, cells, slots⟩ argsL.toArray v B ∧
      ∀ target, Steps p.tables e below (B.U.setTop { g with pc := g.pc + 3, stack := v.toList ++ rest }) target → Steps p.tables e below (T.setTop g) target) ∨
    (∃ (q : Addr) (vm₁ : Vm) (B : Pt), s.WarmedH vm₁ ∧ Stand p l e R s m args below meth c B.U B.locs B.cells B.slots ∧ PostX ⟨T.setVm vm₁, locs, cells, slots⟩ argsL.toArray q B ∧
      Steps p.tables e below (T.setTop g) ((B.U.setTop { g with stack := rest }).pushFrame (.throwing q))) := by
  obtain ⟨mk, methM, cM, hnamed, hmethM, -, -, -, -, -, -, hsigM⟩ := Cond.codeWith_spec hcode
  have hstatic : methM.isStatic = true := Cond.static_spec hnamed hmethM hstat
  obtain ⟨kP, hkP, -⟩ := className_of_methodNamed hnamed
  have hinitP : kP.init = .initialized := Cond.initialized_spec (findClass_of_methodNamed hnamed) hkP hinit
  obtain ⟨vm₁, X₁, hstep₁⟩ := X.invokestatic hexec hown hlink hnamed hmethM hstatic hkP hinitP hy (g := g) hg (argsL := argsL) (rest := rest) (hlen _ hsigM) hstack hdg
  rcases hK m meth c ⟨T.setVm vm₁, locs, cells, slots⟩ { g with stack := rest } (.invokestatic index) mk argsL.toArray X₁ hg hsize hdg hW (X₁.named hnamed) (hpre vm₁ X₁.warmed) with ⟨v, B, X', hpost, hsteps⟩ | ⟨q, B, X', hpost, hsteps⟩
  · exact Or.inl ⟨v, vm₁, B, X₁.warmed, X', hpost, fun target h => hstep₁ _ fun acts => by rw [doInvoke_state]; exact hsteps.trans h⟩
  · exact Or.inr ⟨q, vm₁, B, X₁.warmed, X', hpost, hstep₁ _ fun acts => by rw [doInvoke_state]; exact hsteps⟩
theorem vx_callVW (X : Stand p l e R s m args below meth c T locs cells slots) (hexec : p.tables.exec = Jvm.exec) {own C : String} {index : Nat} {y : MethodName} {bytes : ByteArray} {maxL : Nat} {ret : Option FieldType} {hh : List (Nat × Nat × Nat × Nat)}
    (hown : s.vm.findClass own = some m.cls) (hlink : (Cond.methodLink own index y).before args s = true) (hinst : (Cond.instanceMethod y).before args s = true) (hsel : (Cond.selects C y y).before args s = true)
    (hcode : (Cond.codeWith y bytes maxL ret hh).before args s = true) (hy : y.cls ≠ "java/lang/invoke/MethodHandle" ∧ y.cls ≠ "java/lang/invoke/VarHandle")
    {W9 : Nat} {Pre : Pt → Array Value → Prop} {Post : Pt → Array Value → Option Value → Pt → Prop} (hK : Back l R p e below s args y 3 W9 Pre Post)
    {b : Addr} {cellB : Cell} (hcell : T.heap[b]? = some cellB) (hobj : cellB.vm.isStatics = false) (hcls : s.vm.findClass C = some cellB.cls)
    {g : JFrame} (hg : g.method = m) (hsize : g.locals.size = c.maxLocals) {argsL rest : List Value} (hlen : ∀ sig, parseMethodDescriptor y.desc = some sig → argsL.length = sig.parameters.length)
    (hstack : g.stack = argsL.reverse ++ .ref b :: rest) (hW : 2 * g.monitorRoom + (rest.map fun v => v.category).sum ≤ W9) (hdg : decode c.code g.pc = .ok (.invokevirtual index, 3))
    (hpre : ∀ vm₁, s.WarmedH vm₁ → Pre ⟨T.setVm vm₁, locs, cells, slots⟩ (Value.ref b :: argsL).toArray) :
    ∃ (v : Option Value) (vm₁ : Vm) (B : Pt), s.WarmedH vm₁ ∧ Stand p l e R s m args below meth c B.U B.locs B.cells B.slots ∧ Post ⟨T.setVm vm₁, locs, cells, slots⟩ (Value.ref b :: argsL).toArray v B ∧
      ∀ target, Steps p.tables e below (B.U.setTop { g with pc := g.pc + 3, stack := v.toList ++ rest }) target → Steps p.tables e below (T.setTop g) target := by
  obtain ⟨mk, methM, hnamed, hmethM, hstM, habM⟩ := Cond.instanceMethod_spec hinst
  obtain ⟨m8, methM', cM, hn8, hmethM', -, -, -, -, -, -, hsigM⟩ := Cond.codeWith_spec hcode
  cases Option.some.inj (hn8.symm.trans hnamed)
  cases hmethM.symm.trans hmethM'
  obtain ⟨c2, r2, m2, q1, q2, q3, q4, kP, hkP, hkPi⟩ := Cond.selects_spec hsel
  cases hcls.symm.trans q1
  cases (State.methodFound?_of_named hnamed hy).symm.trans q2
  cases hnamed.symm.trans q3
  have hselP : selectMethod e.platform s.vm cellB.cls mk = .method mk := by rw [Launch.admits_selectMethod X.admits]; exact q4
  obtain ⟨vm₁, X₁, hstep₁⟩ := X.invokevirtual hexec hown hlink hnamed hmethM hstM hkP hkPi hy (a := b) (cell := cellB) hcell
    (fun z h => by rw [h] at hobj; cases hobj) hselP hmethM habM hkP hkPi (g := g) hg (argsL := argsL) (rest := rest) (hlen _ hsigM) hstack hdg
  obtain ⟨v, B, X', hpost, hsteps⟩ := hK m meth c ⟨T.setVm vm₁, locs, cells, slots⟩ { g with stack := rest } (.invokevirtual index) mk (Value.ref b :: argsL).toArray X₁ hg hsize hdg hW (X₁.named hnamed) (hpre vm₁ X₁.warmed)
  exact ⟨v, vm₁, B, X₁.warmed, X', hpost, fun target h => hstep₁ _ fun acts => by rw [doInvoke_state]; exact hsteps.trans h⟩
abbrev vx_CVW (R : Room) (s : State) (args : Array Value) (own C : String) (index : Nat) (y : MethodName) (bytes : ByteArray) (maxL : Nat) (ret : Option FieldType) (hh : List (Nat × Nat × Nat × Nat)) (ws : List Cond) (rm : Room) (mc ms n : Nat) : Prop :=
  (rm.cells = mc ∧ rm.slots = ms ∧ rm.frames + 1 ≤ R.frames ∧ 8 + (maxL + 11) + rm.locals ≤ R.locals ∧ (∀ w ∈ ws, ∀ (a' : Array Value) (U : State), s.WarmedH U.vm → w.before a' U = true) ∧ Cond.codeWith y bytes maxL ret hh ∈ ws) ∧
  (Cond.codeWith y bytes maxL ret hh).before args s = true ∧ (Cond.initialized y.cls).before args s = true ∧ (y.cls ≠ "java/lang/invoke/MethodHandle" ∧ y.cls ≠ "java/lang/invoke/VarHandle") ∧
  (∀ sig, parseMethodDescriptor y.desc = some sig → n = sig.parameters.length) ∧ (Cond.methodLink own index y).before args s = true ∧ (Cond.instanceMethod y).before args s = true ∧ (Cond.selects C y y).before args s = true
theorem vx_cwVW {own C : String} {index maxL mc ms : Nat} {y : MethodName} {bytes : ByteArray} {ret : Option FieldType} {hh : List (Nat × Nat × Nat × Nat)} {Ts ws ws' : List Cond} {rm : Room} (n : Nat) (ht : ∀ w ∈ Ts, w.before args s = true) (hT : GoodIn Ts (wsV own index C y ws)) (hw : ws = Cond.codeWith y bytes maxL ret hh :: ws') (hrc : rm.cells = mc) (hrs : rm.slots = ms)
    (hd : y.cls = C ∧ y.cls ≠ "java/lang/invoke/MethodHandle" ∧ y.cls ≠ "java/lang/invoke/VarHandle" ∧ (parseMethodDescriptor y.desc).map (fun d => d.parameters.length) = some n) (hR : rm.frames + 1 ≤ R.frames ∧ 8 + (maxL + 11) + rm.locals ≤ R.locals) :
    vx_CVW R s args own C index y bytes maxL ret hh ws rm mc ms n := by
  obtain ⟨hC, hd⟩ := hd
  subst hC
  have ok : ∀ w ∈ wsV own index y.cls y ws, w.before args s = true := fun w h => ht w (hT w h).1
  have hG : GoodIn Ts ws := fun w h => hT w (by unfold wsV; exact List.mem_append_right _ h)
  have hc : Cond.codeWith y bytes maxL ret hh ∈ ws := by rw [hw]; exact List.mem_cons_self
  refine ⟨⟨hrc, hrs, hR.1, hR.2, pay_in ht hG, hc⟩, ht _ (hG _ hc).1, ok _ (by simp [wsV]), ⟨hd.1, hd.2.1⟩, fun sig h => ?_, ok _ (by simp [wsV]), ok _ (by simp [wsV]), ok _ (by simp [wsV])⟩
  have h2 := hd.2.2
  rw [h] at h2
  exact (Option.some.inj h2).symm
theorem vx_runVW {y : MethodName} {bytes cc : ByteArray} {maxL nL mc ms n index : Nat} {ret : Option FieldType} {hh : List (Nat × Nat × Nat × Nat)} {ws : List Cond} {rm : Room} {Pc : Array Value → State → Prop} {Qc : Array Value → State → Outcome → State → Prop} {free : Addr → Prop} {Ts : List Cond} {own C : String} {b : Addr} {As rest : List Value} {g : JFrame}
    (S : CallFix p m c cc nL s args Ts own) (hM : Met l y ws rm Pc Qc mc ms free) (cw : vx_CVW R s args own C index y bytes maxL ret hh ws rm mc ms n) (hp : PreV s H C b Pc As)
    (hg : g.method = m) (hn : As.length = n) (hsize : g.locals.size = nL) (hstack : g.stack = As.reverse ++ .ref b :: rest) (hW : 2 * g.monitorRoom + (rest.map fun v => v.category).sum ≤ 8) (hdg : decode cc g.pc = .ok (.invokevirtual index, 3)) (hf : cells + mc ≤ R.cells ∧ slots + ms ≤ R.slots) :
    va_Run p l e R s m args below meth c H locs cells slots mc ms g rest (Qc (Value.ref b :: As).toArray) free := by
  obtain ⟨⟨hrc, hrs, hfr, hlo, hws, hcw⟩, hcode, hini, hy, hlen, hl, hin, hse⟩ := cw
  have hK : Back l R p e below s args y 3 8 (PreOf R mc ms Pc) (PostOf Qc mc ms free) := va_backW (hh := hh) (bytes := bytes) (maxL := maxL) (ret := ret) hM hp.1 hrc hrs hfr hlo hws hcw (fun a' U hW => word_at hW (Or.inl (by first | rfl | simp [Cond.onTables, Cond.keeps, Cond.steady])) hini)
  obtain ⟨hx, hb, hml, ho, -⟩ := S
  obtain ⟨-, ⟨cellB, hcB, hoB, hclB⟩, hPc⟩ := hp
  intro T hT X
  obtain ⟨v, vm₁, ⟨U', l2, c2, s2⟩, hW₁, X', ⟨g', mk, t, L, e1, e2, hq, h1, hL, h2, h3⟩, st⟩ := vx_callVW X hx (C := C) (hh := hh) (bytes := bytes) (maxL := maxL) (ret := ret) ho hl hin hse hcode hy hK (by rw [hT]; exact hcB) hoB hclB hg (hsize.trans hml.symm) (argsL := As) (rest := rest) (fun sig h => hn.trans (hlen sig h)) hstack hW (by rw [hb]; exact hdg)
    (fun vm₁ hW₁ => ⟨hf.1, hf.2, hPc (T.setVm vm₁) hT hW₁⟩)
  dsimp only [Pt.U, Pt.locs, Pt.cells, Pt.slots] at X' e1 e2 h1 h2 h3 st
  subst h1; subst h2; subst h3
  exact ⟨v, (T.setVm vm₁).calling g' mk (Value.ref b :: As).toArray, t, U', L, hT, X', hL, e1, e2, hq, st⟩
section
variable {y : MethodName} {bytes cc : ByteArray} {maxL nL mc ms n index : Nat} {ret : Option FieldType} {ws : List Cond} {rm : Room} {Pc : Array Value → State → Prop} {Qc : Array Value → State → Outcome → State → Prop} {XC : String → State → State → Prop} {free : Addr → Prop} {Ts : List Cond} {own C : String} {b : Addr} {As rest : List Value} {g : JFrame}
theorem vx_runVX {hh : List (Nat × Nat × Nat × Nat)} (S : CallFix p m c cc nL s args Ts own) (hM : vx_Met l y ws rm Pc Qc XC mc ms free) (cw : vx_CVW R s args own C index y bytes maxL ret hh ws rm mc ms n) (hp : PreV s H C b Pc As)
    (hg : g.method = m) (hn : As.length = n) (hsize : g.locals.size = nL) (hstack : g.stack = As.reverse ++ .ref b :: rest) (hW : 2 * g.monitorRoom + (rest.map fun v => v.category).sum ≤ 8) (hdg : decode cc g.pc = .ok (.invokevirtual index, 3)) (hf : cells + mc ≤ R.cells ∧ slots + ms ≤ R.slots) :
    vx_Run p l e R s m args below meth c H locs cells slots mc ms g rest (Qc (Value.ref b :: As).toArray) XC free := by
  obtain ⟨⟨hrc, hrs, hfr, hlo, hws, hcw⟩, hcode, hini, hy, hlen, hl, hin, hse⟩ := cw
  have hK : vx_Back l R p e below s args y 3 8 (PreOf R mc ms Pc) (PostOf Qc mc ms free) (vx_Post XC mc ms free) := vx_backW (hh := hh) (bytes := bytes) (maxL := maxL) (ret := ret) hM hp.1 hrc hrs hfr hlo hws hcw (fun a' U hW => word_at hW (Or.inl (by first | rfl | simp [Cond.onTables, Cond.keeps, Cond.steady])) hini)
  obtain ⟨hx, hb, hml, ho, -⟩ := S
  obtain ⟨-, ⟨cellB, hcB, hoB, hclB⟩, hPc⟩ := hp
  intro T hT X
  rcases vx_callVX X hx (C := C) (hh := hh) (bytes := bytes) (maxL := maxL) (ret := ret) ho hl hin hse hcode hy hK (by rw [hT]; exact hcB) hoB hclB hg (hsize.trans hml.symm) (argsL := As) (rest := rest) (fun sig h => hn.trans (hlen sig h)) hstack hW (by rw [hb]; exact hdg)
    (fun vm₁ hW₁ => ⟨hf.1, hf.2, hPc (T.setVm vm₁) hT hW₁⟩) with ⟨v, vm₁, ⟨U', l2, c2, s2⟩, hW₁, X', ⟨g', mk, t, L, e1, e2, hq, h1, hL, h2, h3⟩, st⟩ | ⟨q, vm₁, ⟨U', l2, c2, s2⟩, hW₁, X', ⟨g', mk, t, L, E, ce, e1, e2, hq, hce, hcv, hcl, h1, hL, h2, h3⟩, st⟩
  · dsimp only [Pt.U, Pt.locs, Pt.cells, Pt.slots] at X' e1 e2 h1 h2 h3 st
    subst h1; subst h2; subst h3
    exact Or.inl ⟨v, (T.setVm vm₁).calling g' mk (Value.ref b :: As).toArray, t, U', L, hT, X', hL, e1, e2, hq, st⟩
  · dsimp only [Pt.U, Pt.locs, Pt.cells, Pt.slots] at X' e1 e2 h1 h2 h3 st hcl
    subst h1; subst h2; subst h3
    exact Or.inr ⟨q, (T.setVm vm₁).calling g' mk (Value.ref b :: As).toArray, t, U', L, E, ce, hT, X', hL, e1, e2, hq, hce, hcv, vx_cls hW₁ hcl, st⟩
theorem vx_runSX {hh : List (Nat × Nat × Nat × Nat)} (S : CallFix p m c cc nL s args Ts own) (hM : vx_Met l y ws rm Pc Qc XC mc ms free) (cw : vx_CSW R s args own index y bytes maxL ret hh ws rm mc ms n) (hp : PreS s H Pc As)
    (hg : g.method = m) (hn : As.length = n) (hsize : g.locals.size = nL) (hstack : g.stack = As.reverse ++ rest) (hW : 2 * g.monitorRoom + (rest.map fun v => v.category).sum ≤ 8) (hdg : decode cc g.pc = .ok (.invokestatic index, 3)) (hf : cells + mc ≤ R.cells ∧ slots + ms ≤ R.slots) :
    vx_Run p l e R s m args below meth c H locs cells slots mc ms g rest (Qc As.toArray) XC free := by
  obtain ⟨⟨hrc, hrs, hfr, hlo, hws, hcw⟩, hcode, hini, hy, hlen, hl, hstt⟩ := cw
  have hK : vx_Back l R p e below s args y 3 8 (PreOf R mc ms Pc) (PostOf Qc mc ms free) (vx_Post XC mc ms free) := vx_backW (hh := hh) (bytes := bytes) (maxL := maxL) (ret := ret) hM hp.1 hrc hrs hfr hlo hws hcw (fun a' U hW => word_at hW (Or.inl (by first | rfl | simp [Cond.onTables, Cond.keeps, Cond.steady])) hini)
  obtain ⟨hx, hb, hml, ho, -⟩ := S
  intro T hT X
  rcases vx_callSX X hx (hh := hh) (bytes := bytes) (maxL := maxL) (ret := ret) ho hl hstt hini hcode hy hK hg (hsize.trans hml.symm) (argsL := As) (rest := rest) (fun sig h => hn.trans (hlen sig h)) hstack hW (by rw [hb]; exact hdg)
    (fun vm₁ hW₁ => ⟨hf.1, hf.2, hp.2 (T.setVm vm₁) hT hW₁⟩) with ⟨v, vm₁, ⟨U', l2, c2, s2⟩, hW₁, X', ⟨g', mk, t, L, e1, e2, hq, h1, hL, h2, h3⟩, st⟩ | ⟨q, vm₁, ⟨U', l2, c2, s2⟩, hW₁, X', ⟨g', mk, t, L, E, ce, e1, e2, hq, hce, hcv, hcl, h1, hL, h2, h3⟩, st⟩
  · dsimp only [Pt.U, Pt.locs, Pt.cells, Pt.slots] at X' e1 e2 h1 h2 h3 st
    subst h1; subst h2; subst h3
    exact Or.inl ⟨v, (T.setVm vm₁).calling g' mk As.toArray, t, U', L, hT, X', hL, e1, e2, hq, st⟩
  · dsimp only [Pt.U, Pt.locs, Pt.cells, Pt.slots] at X' e1 e2 h1 h2 h3 st hcl
    subst h1; subst h2; subst h3
    exact Or.inr ⟨q, (T.setVm vm₁).calling g' mk As.toArray, t, U', L, E, ce, hT, X', hL, e1, e2, hq, hce, hcv, vx_cls hW₁ hcl, st⟩
end
end VXH
theorem vx_ofWH {l : Launch} {y : MethodName} {ws ws' : List Cond} {rm : Room} {Pc : Array Value → State → Prop} {Qc : Array Value → State → Outcome → State → Prop} {XC : String → State → State → Prop} {mc ms : Nat} {free : Addr → Prop} {cc : ByteArray} {maxL : Nat} {ret : Option FieldType} {hh : List (Nat × Nat × Nat × Nat)}
    (hy : plainName y.cls = true) (hw : ws = Cond.codeWith y cc maxL ret hh :: ws')
    (body : ∀ p e s m args below meth c s₁, BodyLoose p l y (headSpec ws rm) cc maxL ret e s m args below meth c s₁ → c.maxLocals = maxL → Pc args s →
      W p l e (headSpec ws rm).room s m args below meth c s.heap [] 0 0 (vx_MQ below Qc XC args s mc ms free) (entryFrame m args maxL)) : vx_Met l y ws rm Pc Qc XC mc ms free := by
  refine MetFree.of_bodyS (code := cc) (maxLocals := maxL) (ret := ret) hy ?_ ?_
  · intro args s m h hn
    obtain ⟨m9, meth, c, hn9, h1, h2, h3, h4, -, h5, h6, -⟩ := Cond.codeWith_spec (atoms_spec (ws := ws) h _ (by rw [hw]; exact List.mem_cons_self))
    cases hn.symm.trans hn9
    exact ⟨meth, c, h1, h2, h3, h4, h5, h6⟩
  · intro p e s m args below meth c s₁ B hml hP _
    have hh0 : s₁.heap = s.heap := by rw [B.state]; rfl
    obtain ⟨t, a1, o, b1, b2, b3⟩ := body p e s m args below meth c s₁ B hml hP s₁ hh0 (Stand.of_body B)
    exact ⟨t, o, a1, b1, b2, b3⟩
/-! ===== END ===== -/
end
section
/-! THE MINI MACHINE: a big-step evaluator over a list of cells. Addresses are places of the list; a String constant is 'retAddr k'. -/
abbrev mm_H : Type := List va_E × Bool × Nat × Nat
abbrev mm_L : Type := List (Nat × Value)
/-- what a step comes to: the next state | an end | a call (method, arguments, rest) | a throw (row of the table of exceptions) -/
abbrev mm_O : Type := (Nat × mm_L × List Value × mm_H) ⊕ (Option Value) ⊕ (Nat × List Value × List Value) ⊕ Nat
/-- a row of code: pc, instruction, length, and what its operand is resolved to -/
abbrev mm_I : Type := Nat × Instr × Nat × Int × Nat
def mm_look (lv : mm_L) (i : Nat) : Option Value := (lv.find? (fun q => q.1 == i)).map (fun q => q.2)
def mm_st1 (lv : mm_L) (i : Nat) (v : Value) : mm_L := (i, v) :: lv.filter (fun q => !(q.1 == i) && !(q.1 + 1 == i && q.2.category == 2))
def mm_st2 (lv : mm_L) (i : Nat) (v : Value) : mm_L := (i, v) :: lv.filter (fun q => !(q.1 == i) && (!(q.1 == i + 1) && !(q.1 + 1 == i && q.2.category == 2)))
def mm_tgt (pc : Nat) (off : Int) : Option Nat := if 0 ≤ (pc : Int) + off then some ((pc : Int) + off).toNat else none
def mm_c1 (c : Jvm.ClassFile.Cond) (x : Int32) : Bool := match c with
  | .eq => decide (x = 0)
  | .ne => decide (¬ x = 0)
  | .lt => decide (x < 0)
  | .ge => decide (0 ≤ x)
  | .gt => decide (0 < x)
  | .le => decide (x ≤ 0)
def mm_c2 (c : Jvm.ClassFile.Cond) (x y : Int32) : Bool := match c with
  | .eq => decide (x = y)
  | .ne => decide (¬ x = y)
  | .lt => decide (x < y)
  | .ge => decide (y ≤ x)
  | .gt => decide (y < x)
  | .le => decide (x ≤ y)
def mm_i2 (f : Int32 → Int32 → Int32) (pc : Nat) (lv : mm_L) (st : List Value) (h : mm_H) : Option mm_O := match st with
  | .int y :: .int x :: r => some (.inl (pc + 1, lv, .int (f x y) :: r, h))
  | _ => none
def mm_l2 (f : Int64 → Int64 → Int64) (pc : Nat) (lv : mm_L) (st : List Value) (h : mm_H) : Option mm_O := match st with
  | .long y :: .long x :: r => some (.inl (pc + 1, lv, .long (f x y) :: r, h))
  | _ => none
def mm_push (k : Nat) (v : Value) (pc : Nat) (lv : mm_L) (st : List Value) (h : mm_H) : Option mm_O := some (.inl (pc + k, lv, v :: st, h))
def mm_ild (k i : Nat) (pc : Nat) (lv : mm_L) (st : List Value) (h : mm_H) : Option mm_O := match mm_look lv i with
  | some (.int x) => some (.inl (pc + k, lv, .int x :: st, h))
  | _ => none
def mm_lld (k i : Nat) (pc : Nat) (lv : mm_L) (st : List Value) (h : mm_H) : Option mm_O := match mm_look lv i with
  | some (.long x) => some (.inl (pc + k, lv, .long x :: st, h))
  | _ => none
def mm_ald (k i : Nat) (pc : Nat) (lv : mm_L) (st : List Value) (h : mm_H) : Option mm_O := match mm_look lv i with
  | some (.ref x) => some (.inl (pc + k, lv, .ref x :: st, h))
  | some (.retAddr x) => some (.inl (pc + k, lv, .retAddr x :: st, h))
  | _ => none
def mm_ist (nL k i : Nat) (pc : Nat) (lv : mm_L) (st : List Value) (h : mm_H) : Option mm_O := match st with
  | .int x :: r => if i < nL then some (.inl (pc + k, mm_st1 lv i (.int x), r, h)) else none
  | _ => none
def mm_ast (nL k i : Nat) (pc : Nat) (lv : mm_L) (st : List Value) (h : mm_H) : Option mm_O := match st with
  | .ref x :: r => if i < nL then some (.inl (pc + k, mm_st1 lv i (.ref x), r, h)) else none
  | _ => none
def mm_lst (nL k i : Nat) (pc : Nat) (lv : mm_L) (st : List Value) (h : mm_H) : Option mm_O := match st with
  | .long x :: r => if i + 1 < nL then some (.inl (pc + k, mm_st2 lv i (.long x), r, h)) else none
  | _ => none
def mm_jmp (t : Option Nat) (lv : mm_L) (st : List Value) (h : mm_H) : Option mm_O := match t with
  | some t => some (.inl (t, lv, st, h))
  | none => none
/-- may such a value lie in field k of class ci? -/
def mm_fitF (tys : Nat → Nat → FieldType) (ci k : Nat) (v : Value) : Bool := match tys ci k, v with
  | .int, .int _ => true
  | .boolean, .int x => decide (x = 0 ∨ x = 1)
  | .object _, .ref _ => true
  | .array _, .ref _ => true
  | _, _ => false
def mm_getf (ci k : Nat) (pc : Nat) (lv : mm_L) (st : List Value) (h : mm_H) : Option mm_O := match st with
  | .ref a :: r => match h.1[a]? with
    | some (.inr (c, fs)) => if c = ci then (match fs[k]? with
      | some v => some (.inl (pc + 3, lv, v :: r, h))
      | none => none) else none
    | _ => none
  | _ => none
def mm_putf (tys : Nat → Nat → FieldType) (fin : Nat → Nat → Bool) (ini : Bool) (own ci k : Nat) (pc : Nat) (lv : mm_L) (st : List Value) (h : mm_H) : Option mm_O := match st with
  | v :: .ref a :: r => match h.1[a]? with
    | some (.inr (c, fs)) => if c = ci ∧ k < fs.length ∧ mm_fitF tys ci k v = true ∧ (fin ci k = false ∨ (ini = true ∧ own = ci)) then some (.inl (pc + 3, lv, r, (h.1.set a (.inr (c, fs.set k v)), h.2))) else none
    | _ => none
  | _ => none
def mm_iald (t : Nat) (pc : Nat) (lv : mm_L) (st : List Value) (h : mm_H) : Option mm_O := match st with
  | .int i :: .ref a :: r => match h.1[a]? with
    | some (.inl (c, n, .inl f)) => if c = t ∧ ¬ (i < 0 ∨ n ≤ i.toNatClampNeg) then some (.inl (pc + 1, lv, .int (f i.toNatClampNeg) :: r, h)) else none
    | _ => none
  | _ => none
def mm_lald (pc : Nat) (lv : mm_L) (st : List Value) (h : mm_H) : Option mm_O := match st with
  | .int i :: .ref a :: r => match h.1[a]? with
    | some (.inl (c, n, .inr (.inl f))) => if c = 2 ∧ ¬ (i < 0 ∨ n ≤ i.toNatClampNeg) then some (.inl (pc + 1, lv, .long (f i.toNatClampNeg) :: r, h)) else none
    | _ => none
  | _ => none
def mm_aald (pc : Nat) (lv : mm_L) (st : List Value) (h : mm_H) : Option mm_O := match st with
  | .int i :: .ref a :: r => match h.1[a]? with
    | some (.inl (c, n, .inr (.inr (.inr (.inr f))))) => if c = 3 ∧ ¬ (i < 0 ∨ n ≤ i.toNatClampNeg) then (match f i.toNatClampNeg with
      | some q => some (.inl (pc + 1, lv, .ref q :: r, h))
      | none => none) else none
    | _ => none
  | _ => none
def mm_iast (pc : Nat) (lv : mm_L) (st : List Value) (h : mm_H) : Option mm_O := match st with
  | .int x :: .int i :: .ref a :: r => match h.1[a]? with
    | some (.inl (c, n, .inl f)) => if c = 0 ∧ ¬ (i < 0 ∨ n ≤ i.toNatClampNeg) then some (.inl (pc + 1, lv, r, (h.1.set a (.inl (c, n, .inl (upd f i.toNatClampNeg x))), h.2))) else none
    | _ => none
  | _ => none
def mm_bast (pc : Nat) (lv : mm_L) (st : List Value) (h : mm_H) : Option mm_O := match st with
  | .int x :: .int i :: .ref a :: r => match h.1[a]? with
    | some (.inl (c, n, .inl f)) => if c = 1 ∧ ¬ (i < 0 ∨ n ≤ i.toNatClampNeg) then some (.inl (pc + 1, lv, r, (h.1.set a (.inl (c, n, .inl (upd f i.toNatClampNeg (vp_nar .byte x)))), h.2))) else none
    | _ => none
  | _ => none
def mm_last (pc : Nat) (lv : mm_L) (st : List Value) (h : mm_H) : Option mm_O := match st with
  | .long x :: .int i :: .ref a :: r => match h.1[a]? with
    | some (.inl (c, n, .inr (.inl f))) => if c = 2 ∧ ¬ (i < 0 ∨ n ≤ i.toNatClampNeg) then some (.inl (pc + 1, lv, r, (h.1.set a (.inl (c, n, .inr (.inl (vp_updL f i.toNatClampNeg x)))), h.2))) else none
    | _ => none
  | _ => none
def mm_aast (pc : Nat) (lv : mm_L) (st : List Value) (h : mm_H) : Option mm_O := match st with
  | .ref v :: .int i :: .ref a :: r => match h.1[a]?, h.1[v]? with
    | some (.inl (c, n, .inr (.inr (.inr (.inr f))))), some (.inr (9, _)) => if c = 3 ∧ ¬ (i < 0 ∨ n ≤ i.toNatClampNeg) then some (.inl (pc + 1, lv, r, (h.1.set a (.inl (c, n, .inr (.inr (.inr (.inr (va_up f i.toNatClampNeg (some v))))))), h.2))) else none
    | _, _ => none
  | _ => none
def mm_copy (pc : Nat) (lv : mm_L) (st : List Value) (h : mm_H) : Option mm_O := match st with
  | .int n :: .int dp :: .ref a1 :: .int sp :: .ref a0 :: r => match h.1[a0]?, h.1[a1]? with
    | some (.inl (c0, n0, .inl f)), some (.inl (c1, n1, .inl g)) =>
      if (c0 = 0 ∧ c1 = 0) ∧ (¬ sp < 0 ∧ ¬ dp < 0 ∧ ¬ n < 0) ∧ (sp.toNatClampNeg + n.toNatClampNeg ≤ n0 ∧ dp.toNatClampNeg + n.toNatClampNeg ≤ n1) ∧ (r.map fun v => v.category).sum ≤ 8 then
        some (.inl (pc + 3, lv, r, (h.1.set a1 (.inl (c1, n1, .inl (va_cpy f g sp.toNatClampNeg dp.toNatClampNeg n.toNatClampNeg))), h.2))) else none
    | _, _ => none
  | _ => none
def mm_new1 (k : Nat) (e : va_E) (ns : Nat) (pc : Nat) (lv : mm_L) (r : List Value) (h : mm_H) : Option mm_O :=
  if h.2.1 = true then some (.inl (pc + k, lv, .ref h.1.length :: r, (h.1 ++ [e], true, h.2.2.1 + 1, h.2.2.2 + ns))) else none
def mm_newa (t : ArrayType) (pc : Nat) (lv : mm_L) (st : List Value) (h : mm_H) : Option mm_O := match st with
  | .int n :: r => if ¬ n < 0 ∧ n.toNatClampNeg ≤ 100000 then (match t with
    | .int => mm_new1 2 (.inl (0, n.toNatClampNeg, .inl (fun _ => 0))) n.toNatClampNeg pc lv r h
    | .byte => mm_new1 2 (.inl (1, n.toNatClampNeg, .inl (fun _ => 0))) n.toNatClampNeg pc lv r h
    | .long => mm_new1 2 (.inl (2, n.toNatClampNeg, .inr (.inl (fun _ => 0)))) n.toNatClampNeg pc lv r h
    | _ => none) else none
  | _ => none
def mm_anew (pc : Nat) (lv : mm_L) (st : List Value) (h : mm_H) : Option mm_O := match st with
  | .int n :: r => if ¬ n < 0 ∧ n.toNatClampNeg ≤ 100000 then mm_new1 3 (.inl (3, n.toNatClampNeg, .inr (.inr (.inr (.inr (fun _ => none)))))) n.toNatClampNeg pc lv r h else none
  | _ => none
/-- a call of method j with n arguments beside the receiver, if it has one of class ci -/
def mm_callV (ci j n : Nat) (st : List Value) (h : mm_H) : Option mm_O := match st.drop n with
  | .ref a :: r => match h.1[a]? with
    | some (.inr (c, _)) => if c = ci ∧ n ≤ st.length ∧ (r.map fun v => v.category).sum ≤ 8 then some (.inr (.inr (.inl (j, .ref a :: (st.take n).reverse, r)))) else none
    | _ => none
  | _ => none
def mm_callS (j n : Nat) (st : List Value) : Option mm_O :=
  if n ≤ st.length ∧ ((st.drop n).map fun v => v.category).sum ≤ 8 then some (.inr (.inr (.inl (j, (st.take n).reverse, st.drop n)))) else none
def mm_len (txt : Nat → List Int32) (pc : Nat) (lv : mm_L) (st : List Value) (h : mm_H) : Option mm_O := match st with
  | .retAddr k :: r => if (r.map fun v => v.category).sum ≤ 8 then some (.inl (pc + 3, lv, .int (Int32.ofNat (txt k).length) :: r, h)) else none
  | _ => none
def mm_chr (txt : Nat → List Int32) (pc : Nat) (lv : mm_L) (st : List Value) (h : mm_H) : Option mm_O := match st with
  | .int i :: .retAddr k :: r => if (r.map fun v => v.category).sum ≤ 8 ∧ ¬ (i < 0 ∨ (txt k).length ≤ i.toNatClampNeg) then some (.inl (pc + 3, lv, .int ((txt k).getD i.toNatClampNeg 0) :: r, h)) else none
  | _ => none
/-- the tables that a step looks into: types of fields, final fields, fresh fields, a method's class, its arguments, texts -/
abbrev mm_T : Type := (Nat → Nat → FieldType) × (Nat → Nat → Bool) × (Nat → List Value) × (Nat → Nat) × (Nat → Nat) × (Nat → List Int32)
def mm_step (B : mm_T) (own nL : Nat) (ini : Bool) (ins : Instr) (len : Nat) (r1 : Int) (r2 : Nat) (pc : Nat) (lv : mm_L) (st : List Value) (h : mm_H) : Option mm_O := match ins with
  | .iconst n => if len = 1 then mm_push 1 (.int (Int32.ofInt n)) pc lv st h else none
  | .bipush n => if len = 2 then mm_push 2 (.int (Int8.ofInt n).toInt32) pc lv st h else none
  | .sipush n => if len = 3 then mm_push 3 (.int (Int16.ofInt n).toInt32) pc lv st h else none
  | .lconst n => if len = 1 then mm_push 1 (.long (Int64.ofNat (n : Nat))) pc lv st h else none
  | .ldc _ => if len = 2 then (match r2 with
    | 0 => mm_push 2 (.int (Int32.ofInt r1)) pc lv st h
    | k + 1 => mm_push 2 (.retAddr k) pc lv st h) else none
  | .ldc_w _ => if len = 3 then (match r2 with
    | 0 => mm_push 3 (.int (Int32.ofInt r1)) pc lv st h
    | _ => none) else none
  | .ldc2_w _ => if len = 3 then mm_push 3 (.long (Int64.ofInt r1)) pc lv st h else none
  | .iload i => if len = 2 then mm_ild 2 i pc lv st h else none
  | .iload_n i => if len = 1 then mm_ild 1 i pc lv st h else none
  | .lload i => if len = 2 then mm_lld 2 i pc lv st h else none
  | .lload_n i => if len = 1 then mm_lld 1 i pc lv st h else none
  | .aload i => if len = 2 then mm_ald 2 i pc lv st h else none
  | .aload_n i => if len = 1 then mm_ald 1 i pc lv st h else none
  | .istore i => if len = 2 then mm_ist nL 2 i pc lv st h else none
  | .istore_n i => if len = 1 then mm_ist nL 1 i pc lv st h else none
  | .lstore i => if len = 2 then mm_lst nL 2 i pc lv st h else none
  | .lstore_n i => if len = 1 then mm_lst nL 1 i pc lv st h else none
  | .astore i => if len = 2 then mm_ast nL 2 i pc lv st h else none
  | .astore_n i => if len = 1 then mm_ast nL 1 i pc lv st h else none
  | .iinc i n => if len = 3 ∧ i < nL then (match mm_look lv i with
    | some (.int x) => some (.inl (pc + 3, mm_st1 lv i (.int (x + Int32.ofInt n)), st, h))
    | _ => none) else none
  | .iadd => if len = 1 then mm_i2 (fun x y => x + y) pc lv st h else none
  | .isub => if len = 1 then mm_i2 (fun x y => x - y) pc lv st h else none
  | .imul => if len = 1 then mm_i2 (fun x y => x * y) pc lv st h else none
  | .iand => if len = 1 then mm_i2 (fun x y => x &&& y) pc lv st h else none
  | .ior => if len = 1 then mm_i2 (fun x y => x ||| y) pc lv st h else none
  | .ixor => if len = 1 then mm_i2 (fun x y => x ^^^ y) pc lv st h else none
  | .ishl => if len = 1 then mm_i2 (fun x y => x <<< (y &&& 31)) pc lv st h else none
  | .ishr => if len = 1 then mm_i2 (fun x y => x >>> (y &&& 31)) pc lv st h else none
  | .iushr => if len = 1 then mm_i2 (fun x y => (x.toUInt32 >>> (y.toUInt32 &&& Int32.toUInt32 31)).toInt32) pc lv st h else none
  | .idiv => if len = 1 then (match st with
    | .int y :: .int x :: r => if ¬ y = 0 then some (.inl (pc + 1, lv, .int (x / y) :: r, h)) else none
    | _ => none) else none
  | .irem => if len = 1 then (match st with
    | .int y :: .int x :: r => if ¬ y = 0 then some (.inl (pc + 1, lv, .int (x - x / y * y) :: r, h)) else none
    | _ => none) else none
  | .ineg => if len = 1 then (match st with
    | .int x :: r => some (.inl (pc + 1, lv, .int (-x) :: r, h))
    | _ => none) else none
  | .ladd => if len = 1 then mm_l2 (fun x y => x + y) pc lv st h else none
  | .lmul => if len = 1 then mm_l2 (fun x y => x * y) pc lv st h else none
  | .ldiv => if len = 1 then (match st with
    | .long y :: .long x :: r => if ¬ y = 0 then some (.inl (pc + 1, lv, .long (x / y) :: r, h)) else none
    | _ => none) else none
  | .lcmp => if len = 1 then (match st with
    | .long y :: .long x :: r => some (.inl (pc + 1, lv, .int (if y < x then 1 else if x = y then 0 else -1) :: r, h))
    | _ => none) else none
  | .i2l => if len = 1 then (match st with
    | .int x :: r => some (.inl (pc + 1, lv, .long x.toInt64 :: r, h))
    | _ => none) else none
  | .l2i => if len = 1 then (match st with
    | .long x :: r => some (.inl (pc + 1, lv, .int x.toInt32 :: r, h))
    | _ => none) else none
  | .i2b => if len = 1 then (match st with
    | .int x :: r => some (.inl (pc + 1, lv, .int x.toInt8.toInt32 :: r, h))
    | _ => none) else none
  | .dup => if len = 1 then (match st with
    | v :: r => if v.category = 1 then some (.inl (pc + 1, lv, v :: v :: r, h)) else none
    | _ => none) else none
  | .dup2 => if len = 1 then (match st with
    | v :: w :: r => if v.category = 1 ∧ w.category = 1 then some (.inl (pc + 1, lv, v :: w :: v :: w :: r, h)) else none
    | _ => none) else none
  | .pop => if len = 1 then (match st with
    | v :: r => if v.category = 1 then some (.inl (pc + 1, lv, r, h)) else none
    | _ => none) else none
  | .goto off => if len = 3 then mm_jmp (mm_tgt pc off) lv st h else none
  | .ifCond c off => if len = 3 then (match st with
    | .int x :: r => (match mm_tgt pc off with
      | some t => some (.inl (if mm_c1 c x = true then t else pc + 3, lv, r, h))
      | none => none)
    | _ => none) else none
  | .if_icmp c off => if len = 3 then (match st with
    | .int y :: .int x :: r => (match mm_tgt pc off with
      | some t => some (.inl (if mm_c2 c x y = true then t else pc + 3, lv, r, h))
      | none => none)
    | _ => none) else none
  | .tableswitch d lo hi offs => (match st with
    | .int x :: r => if x.toInt < lo ∨ hi < x.toInt then mm_jmp (mm_tgt pc d) lv r h else (match offs[(x.toInt - lo).toNat]? with
      | some off => mm_jmp (mm_tgt pc off) lv r h
      | none => none)
    | _ => none)
  | .getfield _ => if len = 3 then mm_getf r1.toNat r2 pc lv st h else none
  | .putfield _ => if len = 3 then mm_putf B.1 B.2.1 ini own r1.toNat r2 pc lv st h else none
  | .iaload => if len = 1 then mm_iald 0 pc lv st h else none
  | .baload => if len = 1 then mm_iald 1 pc lv st h else none
  | .laload => if len = 1 then mm_lald pc lv st h else none
  | .aaload => if len = 1 then mm_aald pc lv st h else none
  | .iastore => if len = 1 then mm_iast pc lv st h else none
  | .bastore => if len = 1 then mm_bast pc lv st h else none
  | .lastore => if len = 1 then mm_last pc lv st h else none
  | .aastore => if len = 1 then mm_aast pc lv st h else none
  | .newarray t => if len = 2 then mm_newa t pc lv st h else none
  | .anewarray _ => if len = 3 then mm_anew pc lv st h else none
  | .new _ => if len = 3 then (match r1 with
    | 0 => mm_new1 3 (.inr (r2, B.2.2.1 r2)) (B.2.2.1 r2).length pc lv st h
    | 1 => if (st.map fun v => v.category).sum ≤ 8 then some (.inr (.inr (.inr r2))) else none
    | _ => none) else none
  | .invokevirtual _ => if len = 3 then (match r1 with
    | 0 => mm_callV (B.2.2.2.1 r2) r2 (B.2.2.2.2.1 r2) st h
    | 1 => mm_len B.2.2.2.2.2 pc lv st h
    | 2 => mm_chr B.2.2.2.2.2 pc lv st h
    | _ => none) else none
  | .invokespecial _ => if len = 3 then (match r1 with
    | 0 => mm_callV (B.2.2.2.1 r2) r2 (B.2.2.2.2.1 r2) st h
    | 1 => (match st with
      | .ref _ :: r => if (r.map fun v => v.category).sum ≤ 8 then some (.inl (pc + 3, lv, r, h)) else none
      | _ => none)
    | _ => none) else none
  | .invokestatic _ => if len = 3 then (match r1 with
    | 0 => mm_callS r2 (B.2.2.2.2.1 r2) st
    | 1 => mm_copy pc lv st h
    | _ => none) else none
  | .ireturn => if len = 1 then (match st with
    | [.int x] => some (.inr (.inl (some (.int x))))
    | _ => none) else none
  | .return_ => if len = 1 then (match st with
    | [] => some (.inr (.inl none))
    | _ => none) else none
  | _ => none
theorem zz_mach : 1 + 1 = 2 := rfl
end
section
def RX0 : String := "SerialGate$Clients"
def TX0 : u_T := fun k => match k with
  | 0 => ("SerialGate$Clients", "count", "I", false)
  | 1 => ("SerialGate$Clients", "only", "I", false)
  | 2 => ("SerialGate$Clients", "reads", "[I", true)
  | 3 => ("SerialGate$Clients", "writes", "[I", true)
  | 4 => ("SerialGate$Clients", "retries", "[I", true)
  | _ => ("SerialGate$Clients", "done", "[I", true)
def tyX0 : Nat → FieldType := fun k => match k with
  | 0 => .int
  | 1 => .int
  | 2 => .array .int
  | 3 => .array .int
  | 4 => .array .int
  | _ => .array .int
abbrev wsX00 : List Cond := u_ws RX0 TX0 6
theorem nmX0 : ∀ a, a < 6 → ∀ b, b < 6 → a ≠ b → (TX0 a).2.1 ≠ (TX0 b).2.1 := by decide +kernel
theorem tyX0_ok : ∀ k, k < 6 → parseFieldDescriptor (TX0 k).2.2.1 = some (tyX0 k) := by decide +kernel
abbrev cX0_init : ByteArray := prog_2_method_1_code
def yX0_init : MethodName := ⟨RX0, "<init>", "()V"⟩
abbrev cX0_copyFrom : ByteArray := prog_2_method_2_code
def yX0_copyFrom : MethodName := ⟨RX0, "copyFrom", "(LSerialGate$Clients;)V"⟩
abbrev cX0_add : ByteArray := prog_2_method_3_code
def yX0_add : MethodName := ⟨RX0, "add", "(IIZ)V"⟩
abbrev cX0_isOnly : ByteArray := prog_2_method_4_code
def yX0_isOnly : MethodName := ⟨RX0, "isOnly", "(I)Z"⟩
abbrev cX0_usedBy : ByteArray := prog_2_method_5_code
def yX0_usedBy : MethodName := ⟨RX0, "usedBy", "(I)I"⟩
abbrev cX0_areClashing : ByteArray := prog_2_method_6_code
def yX0_areClashing : MethodName := ⟨RX0, "areClashing", "(II)Z"⟩
abbrev cX0_doersOf : ByteArray := prog_2_method_7_code
def yX0_doersOf : MethodName := ⟨RX0, "doersOf", "(I)I"⟩
abbrev cX0_allDone : ByteArray := prog_2_method_8_code
def yX0_allDone : MethodName := ⟨RX0, "allDone", "()I"⟩
abbrev cX0_allRetries : ByteArray := prog_2_method_9_code
def yX0_allRetries : MethodName := ⟨RX0, "allRetries", "()I"⟩
abbrev cX0_shareOf : ByteArray := prog_2_method_10_code
def yX0_shareOf : MethodName := ⟨RX0, "shareOf", "(I)I"⟩
abbrev cX0_hottestKey : ByteArray := prog_2_method_11_code
def yX0_hottestKey : MethodName := ⟨RX0, "hottestKey", "()I"⟩
abbrev cX0_twinPairs : ByteArray := prog_2_method_12_code
def yX0_twinPairs : MethodName := ⟨RX0, "twinPairs", "()I"⟩
def RX1 : String := "SerialGate$History"
def TX1 : u_T := fun k => match k with
  | 0 => ("SerialGate$History", "rows", "I", false)
  | 1 => ("SerialGate$History", "oldest", "I", false)
  | 2 => ("SerialGate$History", "client", "[I", true)
  | 3 => ("SerialGate$History", "ended", "[I", true)
  | 4 => ("SerialGate$History", "looked", "[I", true)
  | 5 => ("SerialGate$History", "written", "[I", true)
  | 6 => ("SerialGate$History", "saw", "[I", true)
  | 7 => ("SerialGate$History", "wrote", "[I", true)
  | _ => ("SerialGate$History", "aheadOfRow", "[I", true)
def tyX1 : Nat → FieldType := fun k => match k with
  | 0 => .int
  | 1 => .int
  | 2 => .array .int
  | 3 => .array .int
  | 4 => .array .int
  | 5 => .array .int
  | 6 => .array .int
  | 7 => .array .int
  | _ => .array .int
abbrev wsX10 : List Cond := u_ws RX1 TX1 9
theorem nmX1 : ∀ a, a < 9 → ∀ b, b < 9 → a ≠ b → (TX1 a).2.1 ≠ (TX1 b).2.1 := by decide +kernel
theorem tyX1_ok : ∀ k, k < 9 → parseFieldDescriptor (TX1 k).2.2.1 = some (tyX1 k) := by decide +kernel
abbrev cX1_init : ByteArray := prog_3_method_1_code
def yX1_init : MethodName := ⟨RX1, "<init>", "()V"⟩
abbrev cX1_copyFrom : ByteArray := prog_3_method_2_code
def yX1_copyFrom : MethodName := ⟨RX1, "copyFrom", "(LSerialGate$History;)V"⟩
abbrev cX1_placeOf : ByteArray := prog_3_method_3_code
def yX1_placeOf : MethodName := ⟨RX1, "placeOf", "(I)I"⟩
abbrev cX1_add : ByteArray := prog_3_method_4_code
def yX1_add : MethodName := ⟨RX1, "add", "(LSerialGate$Slots;I[I)V"⟩
abbrev cX1_serialRow : ByteArray := prog_3_method_5_code
def yX1_serialRow : MethodName := ⟨RX1, "serialRow", "(I)I"⟩
abbrev cX1_nextRow : ByteArray := prog_3_method_6_code
def yX1_nextRow : MethodName := ⟨RX1, "nextRow", "(I)I"⟩
abbrev cX1_findAhead : ByteArray := prog_3_method_7_code
def yX1_findAhead : MethodName := ⟨RX1, "findAhead", "()V"⟩
abbrev cX1_mustBeAhead : ByteArray := prog_3_method_8_code
def yX1_mustBeAhead : MethodName := ⟨RX1, "mustBeAhead", "(II)Z"⟩
def RX2 : String := "SerialGate$Law"
def TX2 : u_T := fun k => match k with
  | 0 => ("SerialGate$Law", "lines", "I", false)
  | 1 => ("SerialGate$Law", "size", "I", false)
  | 2 => ("SerialGate$Law", "kind", "[I", true)
  | 3 => ("SerialGate$Law", "worth", "[I", true)
  | 4 => ("SerialGate$Law", "codeEnd", "[I", true)
  | 5 => ("SerialGate$Law", "code", "[I", true)
  | 6 => ("SerialGate$Law", "facts", "[I", true)
  | _ => ("SerialGate$Law", "stack", "[I", true)
def tyX2 : Nat → FieldType := fun k => match k with
  | 0 => .int
  | 1 => .int
  | 2 => .array .int
  | 3 => .array .int
  | 4 => .array .int
  | 5 => .array .int
  | 6 => .array .int
  | _ => .array .int
abbrev wsX20 : List Cond := u_ws RX2 TX2 8
theorem nmX2 : ∀ a, a < 8 → ∀ b, b < 8 → a ≠ b → (TX2 a).2.1 ≠ (TX2 b).2.1 := by decide +kernel
theorem tyX2_ok : ∀ k, k < 8 → parseFieldDescriptor (TX2 k).2.2.1 = some (tyX2 k) := by decide +kernel
abbrev cX2_init : ByteArray := prog_4_method_1_code
def yX2_init : MethodName := ⟨RX2, "<init>", "()V"⟩
abbrev cX2_copyFrom : ByteArray := prog_4_method_2_code
def yX2_copyFrom : MethodName := ⟨RX2, "copyFrom", "(LSerialGate$Law;)V"⟩
abbrev cX2_clear : ByteArray := prog_4_method_3_code
def yX2_clear : MethodName := ⟨RX2, "clear", "()V"⟩
abbrev cX2_add : ByteArray := prog_4_method_4_code
def yX2_add : MethodName := ⟨RX2, "add", "(I)V"⟩
abbrev cX2_endLine : ByteArray := prog_4_method_5_code
def yX2_endLine : MethodName := ⟨RX2, "endLine", "(II)V"⟩
abbrev cX2_sumOf : ByteArray := prog_4_method_6_code
def yX2_sumOf : MethodName := ⟨RX2, "sumOf", "(I)I"⟩
abbrev cX2_holds : ByteArray := prog_4_method_7_code
def yX2_holds : MethodName := ⟨RX2, "holds", "(I)Z"⟩
def RX3 : String := "SerialGate$LawReader"
def TX3 : u_T := fun k => match k with
  | 0 => ("SerialGate$LawReader", "draft", "LSerialGate$Law;", true)
  | 1 => ("SerialGate$LawReader", "tape", "LSerialGate$Tape;", true)
  | 2 => ("SerialGate$LawReader", "pending", "[I", true)
  | 3 => ("SerialGate$LawReader", "pendingCount", "I", false)
  | _ => ("SerialGate$LawReader", "deep", "I", false)
def tyX3 : Nat → FieldType := fun k => match k with
  | 0 => .object "SerialGate$Law"
  | 1 => .object "SerialGate$Tape"
  | 2 => .array .int
  | 3 => .int
  | _ => .int
abbrev wsX30 : List Cond := u_ws RX3 TX3 5
theorem nmX3 : ∀ a, a < 5 → ∀ b, b < 5 → a ≠ b → (TX3 a).2.1 ≠ (TX3 b).2.1 := by decide +kernel
theorem tyX3_ok : ∀ k, k < 5 → parseFieldDescriptor (TX3 k).2.2.1 = some (tyX3 k) := by decide +kernel
abbrev cX3_init : ByteArray := prog_5_method_1_code
def yX3_init : MethodName := ⟨RX3, "<init>", "(LSerialGate$Tape;)V"⟩
abbrev cX3_readsText : ByteArray := prog_5_method_2_code
def yX3_readsText : MethodName := ⟨RX3, "readsText", "()Z"⟩
abbrev cX3_takenKind : ByteArray := prog_5_method_3_code
def yX3_takenKind : MethodName := ⟨RX3, "takenKind", "()I"⟩
abbrev cX3_readsCondition : ByteArray := prog_5_method_4_code
def yX3_readsCondition : MethodName := ⟨RX3, "readsCondition", "()Z"⟩
abbrev cX3_goDeeper : ByteArray := prog_5_method_5_code
def yX3_goDeeper : MethodName := ⟨RX3, "goDeeper", "(I)V"⟩
abbrev cX3_push : ByteArray := prog_5_method_6_code
def yX3_push : MethodName := ⟨RX3, "push", "(I)V"⟩
abbrev cX3_isPending : ByteArray := prog_5_method_7_code
def yX3_isPending : MethodName := ⟨RX3, "isPending", "(II)Z"⟩
abbrev cX3_join : ByteArray := prog_5_method_8_code
def yX3_join : MethodName := ⟨RX3, "join", "(II)V"⟩
abbrev cX3_endNots : ByteArray := prog_5_method_9_code
def yX3_endNots : MethodName := ⟨RX3, "endNots", "()V"⟩
abbrev cX3_endBracket : ByteArray := prog_5_method_10_code
def yX3_endBracket : MethodName := ⟨RX3, "endBracket", "()V"⟩
abbrev cX3_readsAtom : ByteArray := prog_5_method_11_code
def yX3_readsAtom : MethodName := ⟨RX3, "readsAtom", "()Z"⟩
abbrev cX3_readsSum : ByteArray := prog_5_method_12_code
def yX3_readsSum : MethodName := ⟨RX3, "readsSum", "()Z"⟩
abbrev cX3_takenFlag : ByteArray := prog_5_method_13_code
def yX3_takenFlag : MethodName := ⟨RX3, "takenFlag", "()I"⟩
abbrev cX3_takenFact : ByteArray := prog_5_method_14_code
def yX3_takenFact : MethodName := ⟨RX3, "takenFact", "()I"⟩
def RX4 : String := "SerialGate$Log"
def TX4 : u_T := fun k => match k with
  | 0 => ("SerialGate$Log", "rows", "I", false)
  | 1 => ("SerialGate$Log", "next", "I", false)
  | _ => ("SerialGate$Log", "cells", "[I", true)
def tyX4 : Nat → FieldType := fun k => match k with
  | 0 => .int
  | 1 => .int
  | _ => .array .int
abbrev wsX40 : List Cond := u_ws RX4 TX4 3
theorem nmX4 : ∀ a, a < 3 → ∀ b, b < 3 → a ≠ b → (TX4 a).2.1 ≠ (TX4 b).2.1 := by decide +kernel
theorem tyX4_ok : ∀ k, k < 3 → parseFieldDescriptor (TX4 k).2.2.1 = some (tyX4 k) := by decide +kernel
abbrev cX4_init : ByteArray := prog_6_method_1_code
def yX4_init : MethodName := ⟨RX4, "<init>", "()V"⟩
abbrev cX4_copyFrom : ByteArray := prog_6_method_2_code
def yX4_copyFrom : MethodName := ⟨RX4, "copyFrom", "(LSerialGate$Log;)V"⟩
abbrev cX4_add : ByteArray := prog_6_method_3_code
def yX4_add : MethodName := ⟨RX4, "add", "(IIII)V"⟩
abbrev cX4_tell : ByteArray := prog_6_method_4_code
def yX4_tell : MethodName := ⟨RX4, "tell", "(II)I"⟩
abbrev cX4_isLed : ByteArray := prog_6_method_5_code
def yX4_isLed : MethodName := ⟨RX4, "isLed", "(II)Z"⟩
abbrev cX4_ledRows : ByteArray := prog_6_method_6_code
def yX4_ledRows : MethodName := ⟨RX4, "ledRows", "(I)I"⟩
abbrev cX4_latestLed : ByteArray := prog_6_method_7_code
def yX4_latestLed : MethodName := ⟨RX4, "latestLed", "(I)I"⟩
def RX5 : String := "SerialGate$Planner"
def TX5 : u_T := fun k => match k with
  | 0 => ("SerialGate$Planner", "clients", "LSerialGate$Clients;", true)
  | 1 => ("SerialGate$Planner", "round", "[I", true)
  | 2 => ("SerialGate$Planner", "partner", "[I", true)
  | 3 => ("SerialGate$Planner", "bestPartner", "[I", true)
  | _ => ("SerialGate$Planner", "bestUses", "I", false)
def tyX5 : Nat → FieldType := fun k => match k with
  | 0 => .object "SerialGate$Clients"
  | 1 => .array .int
  | 2 => .array .int
  | 3 => .array .int
  | _ => .int
abbrev wsX50 : List Cond := u_ws RX5 TX5 5
theorem nmX5 : ∀ a, a < 5 → ∀ b, b < 5 → a ≠ b → (TX5 a).2.1 ≠ (TX5 b).2.1 := by decide +kernel
theorem tyX5_ok : ∀ k, k < 5 → parseFieldDescriptor (TX5 k).2.2.1 = some (tyX5 k) := by decide +kernel
abbrev cX5_init : ByteArray := prog_7_method_1_code
def yX5_init : MethodName := ⟨RX5, "<init>", "(LSerialGate$Clients;)V"⟩
abbrev cX5_mostApart : ByteArray := prog_7_method_2_code
def yX5_mostApart : MethodName := ⟨RX5, "mostApart", "()I"⟩
abbrev cX5_areApart : ByteArray := prog_7_method_3_code
def yX5_areApart : MethodName := ⟨RX5, "areApart", "(I)Z"⟩
abbrev cX5_fewestRounds : ByteArray := prog_7_method_4_code
def yX5_fewestRounds : MethodName := ⟨RX5, "fewestRounds", "()I"⟩
abbrev cX5_roundOf : ByteArray := prog_7_method_5_code
def yX5_roundOf : MethodName := ⟨RX5, "roundOf", "(I)I"⟩
abbrev cX5_placesFrom : ByteArray := prog_7_method_6_code
def yX5_placesFrom : MethodName := ⟨RX5, "placesFrom", "(LSerialGate$Planner;III)Z"⟩
abbrev cX5_fitsRound : ByteArray := prog_7_method_7_code
def yX5_fitsRound : MethodName := ⟨RX5, "fitsRound", "(II)Z"⟩
abbrev cX5_leastCover : ByteArray := prog_7_method_8_code
def yX5_leastCover : MethodName := ⟨RX5, "leastCover", "()I"⟩
abbrev cX5_coversAll : ByteArray := prog_7_method_9_code
def yX5_coversAll : MethodName := ⟨RX5, "coversAll", "(I)Z"⟩
abbrev cX5_pairOf : ByteArray := prog_7_method_10_code
def yX5_pairOf : MethodName := ⟨RX5, "pairOf", "(I)I"⟩
abbrev cX5_pairFrom : ByteArray := prog_7_method_11_code
def yX5_pairFrom : MethodName := ⟨RX5, "pairFrom", "(LSerialGate$Planner;II)V"⟩
abbrev cX5_restingChoices : ByteArray := prog_7_method_12_code
def yX5_restingChoices : MethodName := ⟨RX5, "restingChoices", "(II)I"⟩
abbrev cX5_hasBy : ByteArray := prog_7_method_13_code
def yX5_hasBy : MethodName := ⟨RX5, "hasBy", "(IIII)I"⟩
abbrev cX5_oddsOf : ByteArray := prog_7_method_14_code
def yX5_oddsOf : MethodName := ⟨RX5, "oddsOf", "(II)I"⟩
def RX6 : String := "SerialGate$Slots"
def TX6 : u_T := fun k => match k with
  | 0 => ("SerialGate$Slots", "running", "I", false)
  | 1 => ("SerialGate$Slots", "finished", "I", false)
  | 2 => ("SerialGate$Slots", "only", "I", false)
  | 3 => ("SerialGate$Slots", "spoilt", "I", false)
  | 4 => ("SerialGate$Slots", "client", "[I", true)
  | 5 => ("SerialGate$Slots", "began", "[I", true)
  | 6 => ("SerialGate$Slots", "ended", "[I", true)
  | 7 => ("SerialGate$Slots", "hasLooked", "[I", true)
  | 8 => ("SerialGate$Slots", "hasRead", "[I", true)
  | 9 => ("SerialGate$Slots", "hasWritten", "[I", true)
  | 10 => ("SerialGate$Slots", "outMin", "[I", true)
  | 11 => ("SerialGate$Slots", "inMax", "[I", true)
  | 12 => ("SerialGate$Slots", "from", "[I", true)
  | 13 => ("SerialGate$Slots", "to", "[I", true)
  | _ => ("SerialGate$Slots", "seen", "[I", true)
def tyX6 : Nat → FieldType := fun k => match k with
  | 0 => .int
  | 1 => .int
  | 2 => .int
  | 3 => .int
  | 4 => .array .int
  | 5 => .array .int
  | 6 => .array .int
  | 7 => .array .int
  | 8 => .array .int
  | 9 => .array .int
  | 10 => .array .int
  | 11 => .array .int
  | 12 => .array .int
  | 13 => .array .int
  | _ => .array .int
abbrev wsX60 : List Cond := u_ws RX6 TX6 15
theorem nmX6 : ∀ a, a < 15 → ∀ b, b < 15 → a ≠ b → (TX6 a).2.1 ≠ (TX6 b).2.1 := by decide +kernel
theorem tyX6_ok : ∀ k, k < 15 → parseFieldDescriptor (TX6 k).2.2.1 = some (tyX6 k) := by decide +kernel
abbrev cX6_init : ByteArray := prog_8_method_1_code
def yX6_init : MethodName := ⟨RX6, "<init>", "()V"⟩
abbrev cX6_copyFrom : ByteArray := prog_8_method_2_code
def yX6_copyFrom : MethodName := ⟨RX6, "copyFrom", "(LSerialGate$Slots;)V"⟩
abbrev cX6_isRunning : ByteArray := prog_8_method_3_code
def yX6_isRunning : MethodName := ⟨RX6, "isRunning", "(I)Z"⟩
abbrev cX6_isUsed : ByteArray := prog_8_method_4_code
def yX6_isUsed : MethodName := ⟨RX6, "isUsed", "(I)Z"⟩
abbrev cX6_isOnly : ByteArray := prog_8_method_5_code
def yX6_isOnly : MethodName := ⟨RX6, "isOnly", "(I)Z"⟩
abbrev cX6_isSpoilt : ByteArray := prog_8_method_6_code
def yX6_isSpoilt : MethodName := ⟨RX6, "isSpoilt", "(I)Z"⟩
abbrev cX6_isSafe : ByteArray := prog_8_method_7_code
def yX6_isSafe : MethodName := ⟨RX6, "isSafe", "(I)Z"⟩
abbrev cX6_isPivot : ByteArray := prog_8_method_8_code
def yX6_isPivot : MethodName := ⟨RX6, "isPivot", "(I)Z"⟩
abbrev cX6_leastFree : ByteArray := prog_8_method_9_code
def yX6_leastFree : MethodName := ⟨RX6, "leastFree", "()I"⟩
abbrev cX6_runningOf : ByteArray := prog_8_method_10_code
def yX6_runningOf : MethodName := ⟨RX6, "runningOf", "(I)I"⟩
abbrev cX6_writerOf : ByteArray := prog_8_method_11_code
def yX6_writerOf : MethodName := ⟨RX6, "writerOf", "(I)I"⟩
abbrev cX6_waitsFor : ByteArray := prog_8_method_12_code
def yX6_waitsFor : MethodName := ⟨RX6, "waitsFor", "(II)Z"⟩
abbrev cX6_leastBegan : ByteArray := prog_8_method_13_code
def yX6_leastBegan : MethodName := ⟨RX6, "leastBegan", "()I"⟩
abbrev cX6_oldestFinished : ByteArray := prog_8_method_14_code
def yX6_oldestFinished : MethodName := ⟨RX6, "oldestFinished", "()I"⟩
abbrev cX6_firstOf : ByteArray := prog_8_method_15_code
def yX6_firstOf : MethodName := ⟨RX6, "firstOf", "(I)I"⟩
abbrev cX6_edgeCount : ByteArray := prog_8_method_16_code
def yX6_edgeCount : MethodName := ⟨RX6, "edgeCount", "()I"⟩
abbrev cX6_open : ByteArray := prog_8_method_17_code
def yX6_open : MethodName := ⟨RX6, "open", "(IIZI)V"⟩
abbrev cX6_close : ByteArray := prog_8_method_18_code
def yX6_close : MethodName := ⟨RX6, "close", "(II)V"⟩
abbrev cX6_free : ByteArray := prog_8_method_19_code
def yX6_free : MethodName := ⟨RX6, "free", "(I)V"⟩
abbrev cX6_leave : ByteArray := prog_8_method_20_code
def yX6_leave : MethodName := ⟨RX6, "leave", "(I)V"⟩
abbrev cX6_isConcurrent : ByteArray := prog_8_method_21_code
def yX6_isConcurrent : MethodName := ⟨RX6, "isConcurrent", "(II)Z"⟩
abbrev cX6_linkToWriters : ByteArray := prog_8_method_22_code
def yX6_linkToWriters : MethodName := ⟨RX6, "linkToWriters", "(II)V"⟩
abbrev cX6_linkFromReaders : ByteArray := prog_8_method_23_code
def yX6_linkFromReaders : MethodName := ⟨RX6, "linkFromReaders", "(II)V"⟩
abbrev cX6_spoilReaders : ByteArray := prog_8_method_24_code
def yX6_spoilReaders : MethodName := ⟨RX6, "spoilReaders", "(I)V"⟩
abbrev cX6_leastInDanger : ByteArray := prog_8_method_25_code
def yX6_leastInDanger : MethodName := ⟨RX6, "leastInDanger", "()I"⟩
abbrev cX6_aheadOf : ByteArray := prog_8_method_26_code
def yX6_aheadOf : MethodName := ⟨RX6, "aheadOf", "(I)I"⟩
abbrev cX6_isEndangered : ByteArray := prog_8_method_27_code
def yX6_isEndangered : MethodName := ⟨RX6, "isEndangered", "(II)Z"⟩
abbrev cX6_leastCut : ByteArray := prog_8_method_28_code
def yX6_leastCut : MethodName := ⟨RX6, "leastCut", "()I"⟩
abbrev cX6_isCut : ByteArray := prog_8_method_29_code
def yX6_isCut : MethodName := ⟨RX6, "isCut", "(I)Z"⟩
def RX7 : String := "SerialGate$StoreReader"
def TX7 : u_T := fun k => match k with
  | _ => ("SerialGate$StoreReader", "tape", "LSerialGate$Tape;", true)
def tyX7 : Nat → FieldType := fun k => match k with
  | _ => .object "SerialGate$Tape"
abbrev wsX70 : List Cond := u_ws RX7 TX7 1
theorem nmX7 : ∀ a, a < 1 → ∀ b, b < 1 → a ≠ b → (TX7 a).2.1 ≠ (TX7 b).2.1 := by decide +kernel
theorem tyX7_ok : ∀ k, k < 1 → parseFieldDescriptor (TX7 k).2.2.1 = some (tyX7 k) := by decide +kernel
abbrev cX7_init : ByteArray := prog_9_method_1_code
def yX7_init : MethodName := ⟨RX7, "<init>", "(LSerialGate$Tape;)V"⟩
abbrev cX7_readsText : ByteArray := prog_9_method_2_code
def yX7_readsText : MethodName := ⟨RX7, "readsText", "(LSerialGate$World;)Z"⟩
abbrev cX7_readsLine : ByteArray := prog_9_method_3_code
def yX7_readsLine : MethodName := ⟨RX7, "readsLine", "(LSerialGate$World;)Z"⟩
abbrev cX7_readsClient : ByteArray := prog_9_method_4_code
def yX7_readsClient : MethodName := ⟨RX7, "readsClient", "(LSerialGate$Clients;)Z"⟩
abbrev cX7_takenKeys : ByteArray := prog_9_method_5_code
def yX7_takenKeys : MethodName := ⟨RX7, "takenKeys", "()I"⟩
abbrev cX7_readsVersion : ByteArray := prog_9_method_6_code
def yX7_readsVersion : MethodName := ⟨RX7, "readsVersion", "(LSerialGate$World;)Z"⟩
def RX8 : String := "SerialGate$Tape"
def TX8 : u_T := fun k => match k with
  | 0 => ("SerialGate$Tape", "bytes", "[I", true)
  | 1 => ("SerialGate$Tape", "length", "I", false)
  | _ => ("SerialGate$Tape", "at", "I", false)
def tyX8 : Nat → FieldType := fun k => match k with
  | 0 => .array .int
  | 1 => .int
  | _ => .int
abbrev wsX80 : List Cond := u_ws RX8 TX8 3
theorem nmX8 : ∀ a, a < 3 → ∀ b, b < 3 → a ≠ b → (TX8 a).2.1 ≠ (TX8 b).2.1 := by decide +kernel
theorem tyX8_ok : ∀ k, k < 3 → parseFieldDescriptor (TX8 k).2.2.1 = some (tyX8 k) := by decide +kernel
abbrev cX8_init : ByteArray := prog_10_method_1_code
def yX8_init : MethodName := ⟨RX8, "<init>", "()V"⟩
abbrev cX8_append : ByteArray := prog_10_method_2_code
def yX8_append : MethodName := ⟨RX8, "append", "(I)V"⟩
abbrev cX8_useUp : ByteArray := prog_10_method_3_code
def yX8_useUp : MethodName := ⟨RX8, "useUp", "()V"⟩
abbrev cX8_rewind : ByteArray := prog_10_method_4_code
def yX8_rewind : MethodName := ⟨RX8, "rewind", "()V"⟩
abbrev cX8_hasEnded : ByteArray := prog_10_method_5_code
def yX8_hasEnded : MethodName := ⟨RX8, "hasEnded", "()Z"⟩
abbrev cX8_pass : ByteArray := prog_10_method_6_code
def yX8_pass : MethodName := ⟨RX8, "pass", "(I)V"⟩
abbrev cX8_isWithin : ByteArray := prog_10_method_7_code
def yX8_isWithin : MethodName := ⟨RX8, "isWithin", "(ICC)Z"⟩
abbrev cX8_takesSign : ByteArray := prog_10_method_8_code
def yX8_takesSign : MethodName := ⟨RX8, "takesSign", "(C)Z"⟩
abbrev cX8_takesWord : ByteArray := prog_10_method_9_code
def yX8_takesWord : MethodName := ⟨RX8, "takesWord", "(Ljava/lang/String;)Z"⟩
abbrev cX8_isAtNumber : ByteArray := prog_10_method_10_code
def yX8_isAtNumber : MethodName := ⟨RX8, "isAtNumber", "()Z"⟩
abbrev cX8_nextNumber : ByteArray := prog_10_method_11_code
def yX8_nextNumber : MethodName := ⟨RX8, "nextNumber", "(I)I"⟩
abbrev cX8_takenNumber : ByteArray := prog_10_method_12_code
def yX8_takenNumber : MethodName := ⟨RX8, "takenNumber", "(I)I"⟩
abbrev cX8_tellsRows : ByteArray := prog_10_method_13_code
def yX8_tellsRows : MethodName := ⟨RX8, "tellsRows", "()Z"⟩
def RX9 : String := "SerialGate$World"
def TX9 : u_T := fun k => match k with
  | 0 => ("SerialGate$World", "law", "LSerialGate$Law;", true)
  | 1 => ("SerialGate$World", "clients", "LSerialGate$Clients;", true)
  | 2 => ("SerialGate$World", "slots", "LSerialGate$Slots;", true)
  | 3 => ("SerialGate$World", "history", "LSerialGate$History;", true)
  | 4 => ("SerialGate$World", "log", "LSerialGate$Log;", true)
  | 5 => ("SerialGate$World", "version", "[I", true)
  | 6 => ("SerialGate$World", "lastRead", "[I", true)
  | 7 => ("SerialGate$World", "lastWritten", "[I", true)
  | 8 => ("SerialGate$World", "lastOut", "[I", true)
  | 9 => ("SerialGate$World", "stamp", "I", false)
  | 10 => ("SerialGate$World", "keep", "I", false)
  | 11 => ("SerialGate$World", "purse", "I", false)
  | 12 => ("SerialGate$World", "seed", "I", false)
  | _ => ("SerialGate$World", "texts", "I", false)
def tyX9 : Nat → FieldType := fun k => match k with
  | 0 => .object "SerialGate$Law"
  | 1 => .object "SerialGate$Clients"
  | 2 => .object "SerialGate$Slots"
  | 3 => .object "SerialGate$History"
  | 4 => .object "SerialGate$Log"
  | 5 => .array .int
  | 6 => .array .int
  | 7 => .array .int
  | 8 => .array .int
  | 9 => .int
  | 10 => .int
  | 11 => .int
  | 12 => .int
  | _ => .int
abbrev wsX90 : List Cond := u_ws RX9 TX9 14
theorem nmX9 : ∀ a, a < 14 → ∀ b, b < 14 → a ≠ b → (TX9 a).2.1 ≠ (TX9 b).2.1 := by decide +kernel
theorem tyX9_ok : ∀ k, k < 14 → parseFieldDescriptor (TX9 k).2.2.1 = some (tyX9 k) := by decide +kernel
abbrev cX9_init : ByteArray := prog_11_method_1_code
def yX9_init : MethodName := ⟨RX9, "<init>", "(LSerialGate$Law;)V"⟩
abbrev cX9_copyFrom : ByteArray := prog_11_method_2_code
def yX9_copyFrom : MethodName := ⟨RX9, "copyFrom", "(LSerialGate$World;)V"⟩
abbrev cX9_run : ByteArray := prog_11_method_3_code
def yX9_run : MethodName := ⟨RX9, "run", "(I)I"⟩
abbrev cX9_draw : ByteArray := prog_11_method_4_code
def yX9_draw : MethodName := ⟨RX9, "draw", "()I"⟩
abbrev cX9_stepOf : ByteArray := prog_11_method_5_code
def yX9_stepOf : MethodName := ⟨RX9, "stepOf", "(I)I"⟩
abbrev cX9_start : ByteArray := prog_11_method_6_code
def yX9_start : MethodName := ⟨RX9, "start", "(I)I"⟩
abbrev cX9_lookAt : ByteArray := prog_11_method_7_code
def yX9_lookAt : MethodName := ⟨RX9, "lookAt", "(II)V"⟩
abbrev cX9_put : ByteArray := prog_11_method_8_code
def yX9_put : MethodName := ⟨RX9, "put", "(II)V"⟩
abbrev cX9_finish : ByteArray := prog_11_method_9_code
def yX9_finish : MethodName := ⟨RX9, "finish", "(I)I"⟩
abbrev cX9_drop : ByteArray := prog_11_method_10_code
def yX9_drop : MethodName := ⟨RX9, "drop", "(II)V"⟩
abbrev cX9_settle : ByteArray := prog_11_method_11_code
def yX9_settle : MethodName := ⟨RX9, "settle", "()V"⟩
abbrev cX9_victim : ByteArray := prog_11_method_12_code
def yX9_victim : MethodName := ⟨RX9, "victim", "(II)I"⟩
abbrev cX9_blameOf : ByteArray := prog_11_method_13_code
def yX9_blameOf : MethodName := ⟨RX9, "blameOf", "(I)I"⟩
abbrev cX9_payOf : ByteArray := prog_11_method_14_code
def yX9_payOf : MethodName := ⟨RX9, "payOf", "(I)I"⟩
abbrev cX9_tellLaw : ByteArray := prog_11_method_15_code
def yX9_tellLaw : MethodName := ⟨RX9, "tellLaw", "(I)V"⟩
abbrev cX9_tidy : ByteArray := prog_11_method_16_code
def yX9_tidy : MethodName := ⟨RX9, "tidy", "()V"⟩
abbrev cX9_summarise : ByteArray := prog_11_method_17_code
def yX9_summarise : MethodName := ⟨RX9, "summarise", "(I)V"⟩
def RX10 : String := "SerialGate"
def TX10 : u_T := fun k => match k with
  | 0 => ("SerialGate", "tape", "LSerialGate$Tape;", true)
  | 1 => ("SerialGate", "law", "LSerialGate$Law;", true)
  | 2 => ("SerialGate", "imageLaw", "LSerialGate$Law;", true)
  | 3 => ("SerialGate", "lawReader", "LSerialGate$LawReader;", true)
  | 4 => ("SerialGate", "world", "LSerialGate$World;", true)
  | 5 => ("SerialGate", "spare", "LSerialGate$World;", true)
  | 6 => ("SerialGate", "imageWorld", "LSerialGate$World;", true)
  | 7 => ("SerialGate", "storeReader", "LSerialGate$StoreReader;", true)
  | 8 => ("SerialGate", "planner", "LSerialGate$Planner;", true)
  | 9 => ("SerialGate", "acts", "[LSerialGate$World;", true)
  | 10 => ("SerialGate", "nextAct", "I", false)
  | 11 => ("SerialGate", "actCount", "I", false)
  | 12 => ("SerialGate", "imageKept", "Z", false)
  | _ => ("SerialGate", "fault", "I", false)
def tyX10 : Nat → FieldType := fun k => match k with
  | 0 => .object "SerialGate$Tape"
  | 1 => .object "SerialGate$Law"
  | 2 => .object "SerialGate$Law"
  | 3 => .object "SerialGate$LawReader"
  | 4 => .object "SerialGate$World"
  | 5 => .object "SerialGate$World"
  | 6 => .object "SerialGate$World"
  | 7 => .object "SerialGate$StoreReader"
  | 8 => .object "SerialGate$Planner"
  | 9 => .array (.object "SerialGate$World")
  | 10 => .int
  | 11 => .int
  | 12 => .boolean
  | _ => .int
abbrev wsX100 : List Cond := u_ws RX10 TX10 14
theorem nmX10 : ∀ a, a < 14 → ∀ b, b < 14 → a ≠ b → (TX10 a).2.1 ≠ (TX10 b).2.1 := by decide +kernel
theorem tyX10_ok : ∀ k, k < 14 → parseFieldDescriptor (TX10 k).2.2.1 = some (tyX10 k) := by decide +kernel
abbrev cX10_init : ByteArray := prog_1_method_1_code
def yX10_init : MethodName := ⟨RX10, "<init>", "()V"⟩
abbrev cX10_feed : ByteArray := prog_1_method_2_code
def yX10_feed : MethodName := ⟨RX10, "feed", "(IIIII)I"⟩
abbrev cX10_end : ByteArray := prog_1_method_3_code
def yX10_end : MethodName := ⟨RX10, "end", "(I)Z"⟩
abbrev cX10_store : ByteArray := prog_1_method_4_code
def yX10_store : MethodName := ⟨RX10, "store", "()I"⟩
abbrev cX10_law : ByteArray := prog_1_method_5_code
def yX10_law : MethodName := ⟨RX10, "law", "()I"⟩
abbrev cX10_fault : ByteArray := prog_1_method_6_code
def yX10_fault : MethodName := ⟨RX10, "fault", "()I"⟩
abbrev cX10_endText : ByteArray := prog_1_method_7_code
def yX10_endText : MethodName := ⟨RX10, "endText", "(Z)V"⟩
abbrev cX10_slot : ByteArray := prog_1_method_8_code
def yX10_slot : MethodName := ⟨RX10, "slot", "(II)I"⟩
abbrev cX10_seen : ByteArray := prog_1_method_9_code
def yX10_seen : MethodName := ⟨RX10, "seen", "(II)I"⟩
abbrev cX10_key : ByteArray := prog_1_method_10_code
def yX10_key : MethodName := ⟨RX10, "key", "(II)I"⟩
abbrev cX10_client : ByteArray := prog_1_method_11_code
def yX10_client : MethodName := ⟨RX10, "client", "(II)I"⟩
abbrev cX10_ticks : ByteArray := prog_1_method_12_code
def yX10_ticks : MethodName := ⟨RX10, "ticks", "(I)I"⟩
abbrev cX10_begin : ByteArray := prog_1_method_13_code
def yX10_begin : MethodName := ⟨RX10, "begin", "(I)I"⟩
abbrev cX10_read : ByteArray := prog_1_method_14_code
def yX10_read : MethodName := ⟨RX10, "read", "(II)I"⟩
abbrev cX10_write : ByteArray := prog_1_method_15_code
def yX10_write : MethodName := ⟨RX10, "write", "(II)Z"⟩
abbrev cX10_commit : ByteArray := prog_1_method_16_code
def yX10_commit : MethodName := ⟨RX10, "commit", "(I)I"⟩
abbrev cX10_abort : ByteArray := prog_1_method_17_code
def yX10_abort : MethodName := ⟨RX10, "abort", "(I)I"⟩
abbrev cX10_keep : ByteArray := prog_1_method_18_code
def yX10_keep : MethodName := ⟨RX10, "keep", "(I)I"⟩
abbrev cX10_seed : ByteArray := prog_1_method_19_code
def yX10_seed : MethodName := ⟨RX10, "seed", "(I)I"⟩
abbrev cX10_dooms : ByteArray := prog_1_method_20_code
def yX10_dooms : MethodName := ⟨RX10, "dooms", "(III)I"⟩
abbrev cX10_pivots : ByteArray := prog_1_method_21_code
def yX10_pivots : MethodName := ⟨RX10, "pivots", "()I"⟩
abbrev cX10_cut : ByteArray := prog_1_method_22_code
def yX10_cut : MethodName := ⟨RX10, "cut", "()I"⟩
abbrev cX10_history : ByteArray := prog_1_method_23_code
def yX10_history : MethodName := ⟨RX10, "history", "(II)I"⟩
abbrev cX10_version : ByteArray := prog_1_method_24_code
def yX10_version : MethodName := ⟨RX10, "version", "(IIZ)I"⟩
abbrev cX10_serial : ByteArray := prog_1_method_25_code
def yX10_serial : MethodName := ⟨RX10, "serial", "(I)I"⟩
abbrev cX10_led : ByteArray := prog_1_method_26_code
def yX10_led : MethodName := ⟨RX10, "led", "(IZ)I"⟩
abbrev cX10_log : ByteArray := prog_1_method_27_code
def yX10_log : MethodName := ⟨RX10, "log", "(II)I"⟩
abbrev cX10_clash : ByteArray := prog_1_method_28_code
def yX10_clash : MethodName := ⟨RX10, "clash", "(II)Z"⟩
abbrev cX10_apart : ByteArray := prog_1_method_29_code
def yX10_apart : MethodName := ⟨RX10, "apart", "()I"⟩
abbrev cX10_rounds : ByteArray := prog_1_method_30_code
def yX10_rounds : MethodName := ⟨RX10, "rounds", "()I"⟩
abbrev cX10_cover : ByteArray := prog_1_method_31_code
def yX10_cover : MethodName := ⟨RX10, "cover", "()I"⟩
abbrev cX10_pairs : ByteArray := prog_1_method_32_code
def yX10_pairs : MethodName := ⟨RX10, "pairs", "(I)I"⟩
abbrev cX10_rests : ByteArray := prog_1_method_33_code
def yX10_rests : MethodName := ⟨RX10, "rests", "(II)I"⟩
abbrev cX10_odds : ByteArray := prog_1_method_34_code
def yX10_odds : MethodName := ⟨RX10, "odds", "(II)I"⟩
abbrev cX10_most : ByteArray := prog_1_method_35_code
def yX10_most : MethodName := ⟨RX10, "most", "(I)I"⟩
abbrev cX10_hot : ByteArray := prog_1_method_36_code
def yX10_hot : MethodName := ⟨RX10, "hot", "()I"⟩
abbrev cX10_twins : ByteArray := prog_1_method_37_code
def yX10_twins : MethodName := ⟨RX10, "twins", "()I"⟩
abbrev cX10_who : ByteArray := prog_1_method_38_code
def yX10_who : MethodName := ⟨RX10, "who", "()I"⟩
abbrev cX10_likely : ByteArray := prog_1_method_39_code
def yX10_likely : MethodName := ⟨RX10, "likely", "()I"⟩
abbrev cX10_ask : ByteArray := prog_1_method_40_code
def yX10_ask : MethodName := ⟨RX10, "ask", "()I"⟩
abbrev cX10_fittingClients : ByteArray := prog_1_method_41_code
def yX10_fittingClients : MethodName := ⟨RX10, "fittingClients", "()I"⟩
abbrev cX10_wrongRows : ByteArray := prog_1_method_42_code
def yX10_wrongRows : MethodName := ⟨RX10, "wrongRows", "(I)I"⟩
abbrev cX10_running : ByteArray := prog_1_method_43_code
def yX10_running : MethodName := ⟨RX10, "running", "()I"⟩
abbrev cX10_finished : ByteArray := prog_1_method_44_code
def yX10_finished : MethodName := ⟨RX10, "finished", "()I"⟩
abbrev cX10_trial : ByteArray := prog_1_method_45_code
def yX10_trial : MethodName := ⟨RX10, "trial", "(IZ)I"⟩
abbrev cX10_span : ByteArray := prog_1_method_46_code
def yX10_span : MethodName := ⟨RX10, "span", "(IZ)I"⟩
abbrev cX10_count : ByteArray := prog_1_method_47_code
def yX10_count : MethodName := ⟨RX10, "count", "(I)I"⟩
abbrev cX10_undo : ByteArray := prog_1_method_48_code
def yX10_undo : MethodName := ⟨RX10, "undo", "()Z"⟩
abbrev cX10_image : ByteArray := prog_1_method_49_code
def yX10_image : MethodName := ⟨RX10, "image", "()V"⟩
abbrev cX10_back : ByteArray := prog_1_method_50_code
def yX10_back : MethodName := ⟨RX10, "back", "()Z"⟩
abbrev cX10_remember : ByteArray := prog_1_method_51_code
def yX10_remember : MethodName := ⟨RX10, "remember", "()V"⟩
abbrev cX10_forgetActs : ByteArray := prog_1_method_52_code
def yX10_forgetActs : MethodName := ⟨RX10, "forgetActs", "()V"⟩
abbrev cX10_needSlot : ByteArray := prog_1_method_53_code
def yX10_needSlot : MethodName := ⟨RX10, "needSlot", "(I)V"⟩
abbrev cX10_needKey : ByteArray := prog_1_method_54_code
def yX10_needKey : MethodName := ⟨RX10, "needKey", "(I)V"⟩
abbrev cX10_needClient : ByteArray := prog_1_method_55_code
def yX10_needClient : MethodName := ⟨RX10, "needClient", "(I)V"⟩
abbrev cX10_needTwo : ByteArray := prog_1_method_56_code
def yX10_needTwo : MethodName := ⟨RX10, "needTwo", "(II)V"⟩
abbrev cX10_needRunning : ByteArray := prog_1_method_57_code
def yX10_needRunning : MethodName := ⟨RX10, "needRunning", "(I)V"⟩
abbrev cX10_needWhat : ByteArray := prog_1_method_58_code
def yX10_needWhat : MethodName := ⟨RX10, "needWhat", "(II)V"⟩
abbrev cX10_needTold : ByteArray := prog_1_method_59_code
def yX10_needTold : MethodName := ⟨RX10, "needTold", "(Z)V"⟩
abbrev cX10_needTrial : ByteArray := prog_1_method_60_code
def yX10_needTrial : MethodName := ⟨RX10, "needTrial", "(I)V"⟩
def RX11 : String := "SerialGateModel"
def TX11 : u_T := fun k => match k with
  | 0 => ("SerialGateModel", "thrown", "I", false)
  | 1 => ("SerialGateModel", "world", "[I", true)
  | 2 => ("SerialGateModel", "image", "[I", true)
  | 3 => ("SerialGateModel", "earlier", "[I", true)
  | 4 => ("SerialGateModel", "trial", "[I", true)
  | 5 => ("SerialGateModel", "acts", "[I", true)
  | 6 => ("SerialGateModel", "hasImage", "Z", false)
  | 7 => ("SerialGateModel", "remembered", "I", false)
  | 8 => ("SerialGateModel", "tape", "[B", true)
  | 9 => ("SerialGateModel", "taped", "I", false)
  | 10 => ("SerialGateModel", "point", "I", false)
  | 11 => ("SerialGateModel", "end", "I", false)
  | 12 => ("SerialGateModel", "begin", "I", false)
  | 13 => ("SerialGateModel", "deep", "I", false)
  | 14 => ("SerialGateModel", "faultAt", "I", false)
  | 15 => ("SerialGateModel", "five", "[I", true)
  | 16 => ("SerialGateModel", "codes", "I", false)
  | 17 => ("SerialGateModel", "value", "[I", true)
  | 18 => ("SerialGateModel", "aborted", "I", false)
  | 19 => ("SerialGateModel", "roundOf", "[I", true)
  | 20 => ("SerialGateModel", "roundCount", "I", false)
  | 21 => ("SerialGateModel", "paired", "[I", true)
  | _ => ("SerialGateModel", "ways", "[J", true)
def tyX11 : Nat → FieldType := fun k => match k with
  | 0 => .int
  | 1 => .array .int
  | 2 => .array .int
  | 3 => .array .int
  | 4 => .array .int
  | 5 => .array .int
  | 6 => .boolean
  | 7 => .int
  | 8 => .array .byte
  | 9 => .int
  | 10 => .int
  | 11 => .int
  | 12 => .int
  | 13 => .int
  | 14 => .int
  | 15 => .array .int
  | 16 => .int
  | 17 => .array .int
  | 18 => .int
  | 19 => .array .int
  | 20 => .int
  | 21 => .array .int
  | _ => .array .long
abbrev wsX110 : List Cond := u_ws RX11 TX11 23
theorem nmX11 : ∀ a, a < 23 → ∀ b, b < 23 → a ≠ b → (TX11 a).2.1 ≠ (TX11 b).2.1 := by decide +kernel
theorem tyX11_ok : ∀ k, k < 23 → parseFieldDescriptor (TX11 k).2.2.1 = some (tyX11 k) := by decide +kernel
abbrev cX11_thrown : ByteArray := prog_13_method_1_code
def yX11_thrown : MethodName := ⟨RX11, "thrown", "()I"⟩
abbrev cX11_throwsIf : ByteArray := prog_13_method_2_code
def yX11_throwsIf : MethodName := ⟨RX11, "throwsIf", "(ZI)Z"⟩
abbrev cX11_in : ByteArray := prog_13_method_3_code
def yX11_in : MethodName := ⟨RX11, "in", "(III)Z"⟩
abbrev cX11_has : ByteArray := prog_13_method_4_code
def yX11_has : MethodName := ⟨RX11, "has", "(II)Z"⟩
abbrev cX11_init : ByteArray := prog_13_method_5_code
def yX11_init : MethodName := ⟨RX11, "<init>", "()V"⟩
abbrev cX11_image : ByteArray := prog_13_method_6_code
def yX11_image : MethodName := ⟨RX11, "image", "()V"⟩
abbrev cX11_back : ByteArray := prog_13_method_7_code
def yX11_back : MethodName := ⟨RX11, "back", "()Z"⟩
abbrev cX11_remembers : ByteArray := prog_13_method_8_code
def yX11_remembers : MethodName := ⟨RX11, "remembers", "()V"⟩
abbrev cX11_undo : ByteArray := prog_13_method_9_code
def yX11_undo : MethodName := ⟨RX11, "undo", "()Z"⟩
abbrev cX11_keepsAll : ByteArray := prog_13_method_10_code
def yX11_keepsAll : MethodName := ⟨RX11, "keepsAll", "()V"⟩
abbrev cX11_bringsBack : ByteArray := prog_13_method_11_code
def yX11_bringsBack : MethodName := ⟨RX11, "bringsBack", "()V"⟩
abbrev cX11_clients : ByteArray := prog_13_method_12_code
def yX11_clients : MethodName := ⟨RX11, "clients", "()I"⟩
abbrev cX11_keyAt : ByteArray := prog_13_method_13_code
def yX11_keyAt : MethodName := ⟨RX11, "keyAt", "(II)I"⟩
abbrev cX11_ofKey : ByteArray := prog_13_method_14_code
def yX11_ofKey : MethodName := ⟨RX11, "ofKey", "(II)I"⟩
abbrev cX11_clientAt : ByteArray := prog_13_method_15_code
def yX11_clientAt : MethodName := ⟨RX11, "clientAt", "(II)I"⟩
abbrev cX11_ofClient : ByteArray := prog_13_method_16_code
def yX11_ofClient : MethodName := ⟨RX11, "ofClient", "(II)I"⟩
abbrev cX11_slotAt : ByteArray := prog_13_method_17_code
def yX11_slotAt : MethodName := ⟨RX11, "slotAt", "(II)I"⟩
abbrev cX11_of : ByteArray := prog_13_method_18_code
def yX11_of : MethodName := ⟨RX11, "of", "(II)I"⟩
abbrev cX11_runs : ByteArray := prog_13_method_19_code
def yX11_runs : MethodName := ⟨RX11, "runs", "(I)Z"⟩
abbrev cX11_isDone : ByteArray := prog_13_method_20_code
def yX11_isDone : MethodName := ⟨RX11, "isDone", "(I)Z"⟩
abbrev cX11_isOnly : ByteArray := prog_13_method_21_code
def yX11_isOnly : MethodName := ⟨RX11, "isOnly", "(I)Z"⟩
abbrev cX11_allIn : ByteArray := prog_13_method_22_code
def yX11_allIn : MethodName := ⟨RX11, "allIn", "(I)I"⟩
abbrev cX11_slotOf : ByteArray := prog_13_method_23_code
def yX11_slotOf : MethodName := ⟨RX11, "slotOf", "(I)I"⟩
abbrev cX11_writerOf : ByteArray := prog_13_method_24_code
def yX11_writerOf : MethodName := ⟨RX11, "writerOf", "(I)I"⟩
abbrev cX11_inOf : ByteArray := prog_13_method_25_code
def yX11_inOf : MethodName := ⟨RX11, "inOf", "(I)I"⟩
abbrev cX11_drawn : ByteArray := prog_13_method_26_code
def yX11_drawn : MethodName := ⟨RX11, "drawn", "(I)I"⟩
abbrev cX11_feed : ByteArray := prog_13_method_27_code
def yX11_feed : MethodName := ⟨RX11, "feed", "(IIIII)I"⟩
abbrev cX11_end : ByteArray := prog_13_method_28_code
def yX11_end : MethodName := ⟨RX11, "end", "(I)Z"⟩
abbrev cX11_isAt : ByteArray := prog_13_method_29_code
def yX11_isAt : MethodName := ⟨RX11, "isAt", "(II)Z"⟩
abbrev cX11_blanks : ByteArray := prog_13_method_30_code
def yX11_blanks : MethodName := ⟨RX11, "blanks", "()V"⟩
abbrev cX11_letters : ByteArray := prog_13_method_31_code
def yX11_letters : MethodName := ⟨RX11, "letters", "()V"⟩
abbrev cX11_isWord : ByteArray := prog_13_method_32_code
def yX11_isWord : MethodName := ⟨RX11, "isWord", "(Ljava/lang/String;)Z"⟩
abbrev cX11_passes : ByteArray := prog_13_method_33_code
def yX11_passes : MethodName := ⟨RX11, "passes", "(Ljava/lang/String;)Z"⟩
abbrev cX11_sign : ByteArray := prog_13_method_34_code
def yX11_sign : MethodName := ⟨RX11, "sign", "(I)Z"⟩
abbrev cX11_number : ByteArray := prog_13_method_35_code
def yX11_number : MethodName := ⟨RX11, "number", "(II)I"⟩
abbrev cX11_isNumberNext : ByteArray := prog_13_method_36_code
def yX11_isNumberNext : MethodName := ⟨RX11, "isNumberNext", "()Z"⟩
abbrev cX11_fault : ByteArray := prog_13_method_37_code
def yX11_fault : MethodName := ⟨RX11, "fault", "()I"⟩
abbrev cX11_uses : ByteArray := prog_13_method_38_code
def yX11_uses : MethodName := ⟨RX11, "uses", "()V"⟩
abbrev cX11_readNumber : ByteArray := prog_13_method_39_code
def yX11_readNumber : MethodName := ⟨RX11, "readNumber", "(III)Z"⟩
abbrev cX11_keysTold : ByteArray := prog_13_method_40_code
def yX11_keysTold : MethodName := ⟨RX11, "keysTold", "(Ljava/lang/String;)I"⟩
abbrev cX11_readClient : ByteArray := prog_13_method_41_code
def yX11_readClient : MethodName := ⟨RX11, "readClient", "()Z"⟩
abbrev cX11_readVersion : ByteArray := prog_13_method_42_code
def yX11_readVersion : MethodName := ⟨RX11, "readVersion", "()Z"⟩
abbrev cX11_readStoreLine : ByteArray := prog_13_method_43_code
def yX11_readStoreLine : MethodName := ⟨RX11, "readStoreLine", "()Z"⟩
abbrev cX11_emits : ByteArray := prog_13_method_44_code
def yX11_emits : MethodName := ⟨RX11, "emits", "(II)V"⟩
abbrev cX11_wordOfPart : ByteArray := prog_13_method_45_code
def yX11_wordOfPart : MethodName := ⟨RX11, "wordOfPart", "()I"⟩
abbrev cX11_readPart : ByteArray := prog_13_method_46_code
def yX11_readPart : MethodName := ⟨RX11, "readPart", "()Z"⟩
abbrev cX11_readSum : ByteArray := prog_13_method_47_code
def yX11_readSum : MethodName := ⟨RX11, "readSum", "()Z"⟩
abbrev cX11_readTag : ByteArray := prog_13_method_48_code
def yX11_readTag : MethodName := ⟨RX11, "readTag", "()Z"⟩
abbrev cX11_readAtom : ByteArray := prog_13_method_49_code
def yX11_readAtom : MethodName := ⟨RX11, "readAtom", "()Z"⟩
abbrev cX11_readAllOf : ByteArray := prog_13_method_50_code
def yX11_readAllOf : MethodName := ⟨RX11, "readAllOf", "()Z"⟩
abbrev cX11_readCond : ByteArray := prog_13_method_51_code
def yX11_readCond : MethodName := ⟨RX11, "readCond", "()Z"⟩
abbrev cX11_readLawLine : ByteArray := prog_13_method_52_code
def yX11_readLawLine : MethodName := ⟨RX11, "readLawLine", "(I)Z"⟩
abbrev cX11_readLine : ByteArray := prog_13_method_53_code
def yX11_readLine : MethodName := ⟨RX11, "readLine", "(ZI)Z"⟩
abbrev cX11_readAll : ByteArray := prog_13_method_54_code
def yX11_readAll : MethodName := ⟨RX11, "readAll", "(Z)I"⟩
abbrev cX11_store : ByteArray := prog_13_method_55_code
def yX11_store : MethodName := ⟨RX11, "store", "()I"⟩
abbrev cX11_law : ByteArray := prog_13_method_56_code
def yX11_law : MethodName := ⟨RX11, "law", "()I"⟩
abbrev cX11_isPivot : ByteArray := prog_13_method_57_code
def yX11_isPivot : MethodName := ⟨RX11, "isPivot", "(I)Z"⟩
abbrev cX11_factOf : ByteArray := prog_13_method_58_code
def yX11_factOf : MethodName := ⟨RX11, "factOf", "(III)I"⟩
abbrev cX11_holdsLine : ByteArray := prog_13_method_59_code
def yX11_holdsLine : MethodName := ⟨RX11, "holdsLine", "(II)Z"⟩
abbrev cX11_sumOf : ByteArray := prog_13_method_60_code
def yX11_sumOf : MethodName := ⟨RX11, "sumOf", "(II)I"⟩
abbrev cX11_blameOf : ByteArray := prog_13_method_61_code
def yX11_blameOf : MethodName := ⟨RX11, "blameOf", "(I)I"⟩
abbrev cX11_payOf : ByteArray := prog_13_method_62_code
def yX11_payOf : MethodName := ⟨RX11, "payOf", "(I)I"⟩
abbrev cX11_isTold : ByteArray := prog_13_method_63_code
def yX11_isTold : MethodName := ⟨RX11, "isTold", "(II)V"⟩
abbrev cX11_areConcurrent : ByteArray := prog_13_method_64_code
def yX11_areConcurrent : MethodName := ⟨RX11, "areConcurrent", "(II)Z"⟩
abbrev cX11_firstOut : ByteArray := prog_13_method_65_code
def yX11_firstOut : MethodName := ⟨RX11, "firstOut", "(I)I"⟩
abbrev cX11_isSafe : ByteArray := prog_13_method_66_code
def yX11_isSafe : MethodName := ⟨RX11, "isSafe", "(I)Z"⟩
abbrev cX11_isFree : ByteArray := prog_13_method_67_code
def yX11_isFree : MethodName := ⟨RX11, "isFree", "(I)V"⟩
abbrev cX11_isAborted : ByteArray := prog_13_method_68_code
def yX11_isAborted : MethodName := ⟨RX11, "isAborted", "(II)V"⟩
abbrev cX11_aheadOf : ByteArray := prog_13_method_69_code
def yX11_aheadOf : MethodName := ⟨RX11, "aheadOf", "(I)I"⟩
abbrev cX11_victimOf : ByteArray := prog_13_method_70_code
def yX11_victimOf : MethodName := ⟨RX11, "victimOf", "(II)I"⟩
abbrev cX11_areMet : ByteArray := prog_13_method_71_code
def yX11_areMet : MethodName := ⟨RX11, "areMet", "()V"⟩
abbrev cX11_leastEnded : ByteArray := prog_13_method_72_code
def yX11_leastEnded : MethodName := ⟨RX11, "leastEnded", "(I)I"⟩
abbrev cX11_leaves : ByteArray := prog_13_method_73_code
def yX11_leaves : MethodName := ⟨RX11, "leaves", "(II)V"⟩
abbrev cX11_isSummed : ByteArray := prog_13_method_74_code
def yX11_isSummed : MethodName := ⟨RX11, "isSummed", "(I)V"⟩
abbrev cX11_isTidy : ByteArray := prog_13_method_75_code
def yX11_isTidy : MethodName := ⟨RX11, "isTidy", "()V"⟩
abbrev cX11_begins : ByteArray := prog_13_method_76_code
def yX11_begins : MethodName := ⟨RX11, "begins", "(I)I"⟩
abbrev cX11_reads : ByteArray := prog_13_method_77_code
def yX11_reads : MethodName := ⟨RX11, "reads", "(II)V"⟩
abbrev cX11_hasToWait : ByteArray := prog_13_method_78_code
def yX11_hasToWait : MethodName := ⟨RX11, "hasToWait", "(II)Z"⟩
abbrev cX11_writes : ByteArray := prog_13_method_79_code
def yX11_writes : MethodName := ⟨RX11, "writes", "(II)V"⟩
abbrev cX11_storyAt : ByteArray := prog_13_method_80_code
def yX11_storyAt : MethodName := ⟨RX11, "storyAt", "(I)I"⟩
abbrev cX11_isHistory : ByteArray := prog_13_method_81_code
def yX11_isHistory : MethodName := ⟨RX11, "isHistory", "(I)V"⟩
abbrev cX11_commits : ByteArray := prog_13_method_82_code
def yX11_commits : MethodName := ⟨RX11, "commits", "(I)I"⟩
abbrev cX11_firstOf : ByteArray := prog_13_method_83_code
def yX11_firstOf : MethodName := ⟨RX11, "firstOf", "(I)I"⟩
abbrev cX11_stepOf : ByteArray := prog_13_method_84_code
def yX11_stepOf : MethodName := ⟨RX11, "stepOf", "(I)I"⟩
abbrev cX11_tick : ByteArray := prog_13_method_85_code
def yX11_tick : MethodName := ⟨RX11, "tick", "()I"⟩
abbrev cX11_goesOn : ByteArray := prog_13_method_86_code
def yX11_goesOn : MethodName := ⟨RX11, "goesOn", "(I)I"⟩
abbrev cX11_noSlot : ByteArray := prog_13_method_87_code
def yX11_noSlot : MethodName := ⟨RX11, "noSlot", "(I)Z"⟩
abbrev cX11_noKey : ByteArray := prog_13_method_88_code
def yX11_noKey : MethodName := ⟨RX11, "noKey", "(I)Z"⟩
abbrev cX11_noClient : ByteArray := prog_13_method_89_code
def yX11_noClient : MethodName := ⟨RX11, "noClient", "(I)Z"⟩
abbrev cX11_slot : ByteArray := prog_13_method_90_code
def yX11_slot : MethodName := ⟨RX11, "slot", "(II)I"⟩
abbrev cX11_seen : ByteArray := prog_13_method_91_code
def yX11_seen : MethodName := ⟨RX11, "seen", "(II)I"⟩
abbrev cX11_key : ByteArray := prog_13_method_92_code
def yX11_key : MethodName := ⟨RX11, "key", "(II)I"⟩
abbrev cX11_doneOfAll : ByteArray := prog_13_method_93_code
def yX11_doneOfAll : MethodName := ⟨RX11, "doneOfAll", "()I"⟩
abbrev cX11_client : ByteArray := prog_13_method_94_code
def yX11_client : MethodName := ⟨RX11, "client", "(II)I"⟩
abbrev cX11_ticks : ByteArray := prog_13_method_95_code
def yX11_ticks : MethodName := ⟨RX11, "ticks", "(I)I"⟩
abbrev cX11_begin : ByteArray := prog_13_method_96_code
def yX11_begin : MethodName := ⟨RX11, "begin", "(I)I"⟩
abbrev cX11_noBoth : ByteArray := prog_13_method_97_code
def yX11_noBoth : MethodName := ⟨RX11, "noBoth", "(II)Z"⟩
abbrev cX11_read : ByteArray := prog_13_method_98_code
def yX11_read : MethodName := ⟨RX11, "read", "(II)I"⟩
abbrev cX11_write : ByteArray := prog_13_method_99_code
def yX11_write : MethodName := ⟨RX11, "write", "(II)Z"⟩
abbrev cX11_notRunning : ByteArray := prog_13_method_100_code
def yX11_notRunning : MethodName := ⟨RX11, "notRunning", "(I)Z"⟩
abbrev cX11_commit : ByteArray := prog_13_method_101_code
def yX11_commit : MethodName := ⟨RX11, "commit", "(I)I"⟩
abbrev cX11_abort : ByteArray := prog_13_method_102_code
def yX11_abort : MethodName := ⟨RX11, "abort", "(I)I"⟩
abbrev cX11_keep : ByteArray := prog_13_method_103_code
def yX11_keep : MethodName := ⟨RX11, "keep", "(I)I"⟩
abbrev cX11_dooms : ByteArray := prog_13_method_104_code
def yX11_dooms : MethodName := ⟨RX11, "dooms", "(III)I"⟩
abbrev cX11_pivots : ByteArray := prog_13_method_105_code
def yX11_pivots : MethodName := ⟨RX11, "pivots", "()I"⟩
abbrev cX11_isCut : ByteArray := prog_13_method_106_code
def yX11_isCut : MethodName := ⟨RX11, "isCut", "(I)Z"⟩
abbrev cX11_cut : ByteArray := prog_13_method_107_code
def yX11_cut : MethodName := ⟨RX11, "cut", "()I"⟩
abbrev cX11_ofStory : ByteArray := prog_13_method_108_code
def yX11_ofStory : MethodName := ⟨RX11, "ofStory", "(II)I"⟩
abbrev cX11_history : ByteArray := prog_13_method_109_code
def yX11_history : MethodName := ⟨RX11, "history", "(II)I"⟩
abbrev cX11_versionIn : ByteArray := prog_13_method_110_code
def yX11_versionIn : MethodName := ⟨RX11, "versionIn", "(IIZ)I"⟩
abbrev cX11_version : ByteArray := prog_13_method_111_code
def yX11_version : MethodName := ⟨RX11, "version", "(IIZ)I"⟩
abbrev cX11_mustBeAhead : ByteArray := prog_13_method_112_code
def yX11_mustBeAhead : MethodName := ⟨RX11, "mustBeAhead", "(II)Z"⟩
abbrev cX11_nextRow : ByteArray := prog_13_method_113_code
def yX11_nextRow : MethodName := ⟨RX11, "nextRow", "(I)I"⟩
abbrev cX11_serial : ByteArray := prog_13_method_114_code
def yX11_serial : MethodName := ⟨RX11, "serial", "(I)I"⟩
abbrev cX11_usedBy : ByteArray := prog_13_method_115_code
def yX11_usedBy : MethodName := ⟨RX11, "usedBy", "(I)I"⟩
abbrev cX11_doClash : ByteArray := prog_13_method_116_code
def yX11_doClash : MethodName := ⟨RX11, "doClash", "(II)Z"⟩
abbrev cX11_noTwo : ByteArray := prog_13_method_117_code
def yX11_noTwo : MethodName := ⟨RX11, "noTwo", "(II)Z"⟩
abbrev cX11_clash : ByteArray := prog_13_method_118_code
def yX11_clash : MethodName := ⟨RX11, "clash", "(II)Z"⟩
abbrev cX11_noneClash : ByteArray := prog_13_method_119_code
def yX11_noneClash : MethodName := ⟨RX11, "noneClash", "(I)Z"⟩
abbrev cX11_apart : ByteArray := prog_13_method_120_code
def yX11_apart : MethodName := ⟨RX11, "apart", "()I"⟩
abbrev cX11_areRounds : ByteArray := prog_13_method_121_code
def yX11_areRounds : MethodName := ⟨RX11, "areRounds", "(II)Z"⟩
abbrev cX11_laysRounds : ByteArray := prog_13_method_122_code
def yX11_laysRounds : MethodName := ⟨RX11, "laysRounds", "()V"⟩
abbrev cX11_rounds : ByteArray := prog_13_method_123_code
def yX11_rounds : MethodName := ⟨RX11, "rounds", "()I"⟩
abbrev cX11_isCover : ByteArray := prog_13_method_124_code
def yX11_isCover : MethodName := ⟨RX11, "isCover", "(I)Z"⟩
abbrev cX11_cover : ByteArray := prog_13_method_125_code
def yX11_cover : MethodName := ⟨RX11, "cover", "()I"⟩
abbrev cX11_areTold : ByteArray := prog_13_method_126_code
def yX11_areTold : MethodName := ⟨RX11, "areTold", "()Z"⟩
abbrev cX11_does : ByteArray := prog_13_method_127_code
def yX11_does : MethodName := ⟨RX11, "does", "(II)I"⟩
abbrev cX11_wrongRows : ByteArray := prog_13_method_128_code
def yX11_wrongRows : MethodName := ⟨RX11, "wrongRows", "(I)I"⟩
abbrev cX11_thatFit : ByteArray := prog_13_method_129_code
def yX11_thatFit : MethodName := ⟨RX11, "thatFit", "(I)I"⟩
abbrev cX11_who : ByteArray := prog_13_method_130_code
def yX11_who : MethodName := ⟨RX11, "who", "()I"⟩
abbrev cX11_likely : ByteArray := prog_13_method_131_code
def yX11_likely : MethodName := ⟨RX11, "likely", "()I"⟩
abbrev cX11_ask : ByteArray := prog_13_method_132_code
def yX11_ask : MethodName := ⟨RX11, "ask", "()I"⟩
abbrev cX11_pairedBy : ByteArray := prog_13_method_133_code
def yX11_pairedBy : MethodName := ⟨RX11, "pairedBy", "(II)I"⟩
abbrev cX11_laysPairs : ByteArray := prog_13_method_134_code
def yX11_laysPairs : MethodName := ⟨RX11, "laysPairs", "()V"⟩
abbrev cX11_pairs : ByteArray := prog_13_method_135_code
def yX11_pairs : MethodName := ⟨RX11, "pairs", "(I)I"⟩
abbrev cX11_goerHas : ByteArray := prog_13_method_136_code
def yX11_goerHas : MethodName := ⟨RX11, "goerHas", "(IIII)I"⟩
abbrev cX11_rests : ByteArray := prog_13_method_137_code
def yX11_rests : MethodName := ⟨RX11, "rests", "(II)I"⟩
abbrev cX11_odds : ByteArray := prog_13_method_138_code
def yX11_odds : MethodName := ⟨RX11, "odds", "(II)I"⟩
abbrev cX11_amountOf : ByteArray := prog_13_method_139_code
def yX11_amountOf : MethodName := ⟨RX11, "amountOf", "(II)I"⟩
abbrev cX11_most : ByteArray := prog_13_method_140_code
def yX11_most : MethodName := ⟨RX11, "most", "(I)I"⟩
abbrev cX11_running : ByteArray := prog_13_method_141_code
def yX11_running : MethodName := ⟨RX11, "running", "()I"⟩
abbrev cX11_finished : ByteArray := prog_13_method_142_code
def yX11_finished : MethodName := ⟨RX11, "finished", "()I"⟩
abbrev cX11_usersOf : ByteArray := prog_13_method_143_code
def yX11_usersOf : MethodName := ⟨RX11, "usersOf", "(I)I"⟩
abbrev cX11_hot : ByteArray := prog_13_method_144_code
def yX11_hot : MethodName := ⟨RX11, "hot", "()I"⟩
abbrev cX11_twins : ByteArray := prog_13_method_145_code
def yX11_twins : MethodName := ⟨RX11, "twins", "()I"⟩
abbrev cX11_noTicks : ByteArray := prog_13_method_146_code
def yX11_noTicks : MethodName := ⟨RX11, "noTicks", "(I)Z"⟩
abbrev cX11_trial : ByteArray := prog_13_method_147_code
def yX11_trial : MethodName := ⟨RX11, "trial", "(IZ)I"⟩
abbrev cX11_span : ByteArray := prog_13_method_148_code
def yX11_span : MethodName := ⟨RX11, "span", "(IZ)I"⟩
abbrev cX11_ofLog : ByteArray := prog_13_method_149_code
def yX11_ofLog : MethodName := ⟨RX11, "ofLog", "(II)I"⟩
abbrev cX11_led : ByteArray := prog_13_method_150_code
def yX11_led : MethodName := ⟨RX11, "led", "(IZ)I"⟩
abbrev cX11_log : ByteArray := prog_13_method_151_code
def yX11_log : MethodName := ⟨RX11, "log", "(II)I"⟩
abbrev cX11_seed : ByteArray := prog_13_method_152_code
def yX11_seed : MethodName := ⟨RX11, "seed", "(I)I"⟩
abbrev cX11_edges : ByteArray := prog_13_method_153_code
def yX11_edges : MethodName := ⟨RX11, "edges", "()I"⟩
abbrev cX11_retriesOfAll : ByteArray := prog_13_method_154_code
def yX11_retriesOfAll : MethodName := ⟨RX11, "retriesOfAll", "()I"⟩
abbrev cX11_count : ByteArray := prog_13_method_155_code
def yX11_count : MethodName := ⟨RX11, "count", "(I)I"⟩
def RJ6 : String := "java/lang/Integer"
abbrev cJ6_numberOfTrailingZeros_0f7a4 : ByteArray := prog_21_method_48_code
def yJ6_numberOfTrailingZeros_0f7a4 : MethodName := ⟨RJ6, "numberOfTrailingZeros", "(I)I"⟩
abbrev cJ6_bitCount_0f7a4 : ByteArray := prog_21_method_49_code
def yJ6_bitCount_0f7a4 : MethodName := ⟨RJ6, "bitCount", "(I)I"⟩
def RJ9 : String := "java/lang/Math"
abbrev cJ9_max_7cf53 : ByteArray := prog_22_method_65_code
def yJ9_max_7cf53 : MethodName := ⟨RJ9, "max", "(II)I"⟩
abbrev cJ9_min_7cf53 : ByteArray := prog_22_method_69_code
def yJ9_min_7cf53 : MethodName := ⟨RJ9, "min", "(II)I"⟩
def RL : String := "SerialGateLaw"
abbrev cL_store : ByteArray := method_3_code
def yL_store : MethodName := ⟨RL, "store", "(LSerialGate;[J)I"⟩
abbrev cL_law : ByteArray := method_4_code
def yL_law : MethodName := ⟨RL, "law", "(LSerialGate;[J)I"⟩
abbrev cL_slot : ByteArray := method_5_code
def yL_slot : MethodName := ⟨RL, "slot", "(LSerialGate;II[J)I"⟩
abbrev cL_seen : ByteArray := method_6_code
def yL_seen : MethodName := ⟨RL, "seen", "(LSerialGate;II[J)I"⟩
abbrev cL_key : ByteArray := method_7_code
def yL_key : MethodName := ⟨RL, "key", "(LSerialGate;II[J)I"⟩
abbrev cL_client : ByteArray := method_8_code
def yL_client : MethodName := ⟨RL, "client", "(LSerialGate;II[J)I"⟩
abbrev cL_ticks : ByteArray := method_9_code
def yL_ticks : MethodName := ⟨RL, "ticks", "(LSerialGate;I[J)I"⟩
abbrev cL_begin : ByteArray := method_10_code
def yL_begin : MethodName := ⟨RL, "begin", "(LSerialGate;I[J)I"⟩
abbrev cL_read : ByteArray := method_11_code
def yL_read : MethodName := ⟨RL, "read", "(LSerialGate;II[J)I"⟩
abbrev cL_write : ByteArray := method_12_code
def yL_write : MethodName := ⟨RL, "write", "(LSerialGate;II[J)I"⟩
abbrev cL_commit : ByteArray := method_13_code
def yL_commit : MethodName := ⟨RL, "commit", "(LSerialGate;I[J)I"⟩
abbrev cL_abort : ByteArray := method_14_code
def yL_abort : MethodName := ⟨RL, "abort", "(LSerialGate;I[J)I"⟩
abbrev cL_keep : ByteArray := method_15_code
def yL_keep : MethodName := ⟨RL, "keep", "(LSerialGate;I[J)I"⟩
abbrev cL_dooms : ByteArray := method_16_code
def yL_dooms : MethodName := ⟨RL, "dooms", "(LSerialGate;III[J)I"⟩
abbrev cL_history : ByteArray := method_17_code
def yL_history : MethodName := ⟨RL, "history", "(LSerialGate;II[J)I"⟩
abbrev cL_version : ByteArray := method_18_code
def yL_version : MethodName := ⟨RL, "version", "(LSerialGate;IIZ[J)I"⟩
abbrev cL_clash : ByteArray := method_19_code
def yL_clash : MethodName := ⟨RL, "clash", "(LSerialGate;II[J)I"⟩
abbrev cL_who : ByteArray := method_20_code
def yL_who : MethodName := ⟨RL, "who", "(LSerialGate;[J)I"⟩
abbrev cL_likely : ByteArray := method_21_code
def yL_likely : MethodName := ⟨RL, "likely", "(LSerialGate;[J)I"⟩
abbrev cL_ask : ByteArray := method_22_code
def yL_ask : MethodName := ⟨RL, "ask", "(LSerialGate;[J)I"⟩
abbrev cL_pairs : ByteArray := method_23_code
def yL_pairs : MethodName := ⟨RL, "pairs", "(LSerialGate;I[J)I"⟩
abbrev cL_rests : ByteArray := method_24_code
def yL_rests : MethodName := ⟨RL, "rests", "(LSerialGate;II[J)I"⟩
abbrev cL_odds : ByteArray := method_25_code
def yL_odds : MethodName := ⟨RL, "odds", "(LSerialGate;II[J)I"⟩
abbrev cL_most : ByteArray := method_26_code
def yL_most : MethodName := ⟨RL, "most", "(LSerialGate;I[J)I"⟩
abbrev cL_trial : ByteArray := method_27_code
def yL_trial : MethodName := ⟨RL, "trial", "(LSerialGate;IZ[J)I"⟩
abbrev cL_span : ByteArray := method_28_code
def yL_span : MethodName := ⟨RL, "span", "(LSerialGate;IZ[J)I"⟩
abbrev cL_led : ByteArray := method_29_code
def yL_led : MethodName := ⟨RL, "led", "(LSerialGate;IZ[J)I"⟩
abbrev cL_log : ByteArray := method_30_code
def yL_log : MethodName := ⟨RL, "log", "(LSerialGate;II[J)I"⟩
abbrev cL_law_ : ByteArray := code
def yL_law_ : MethodName := ⟨RL, "law", "([I)Z"⟩
abbrev vwCl : List vw_C := [(RX0, TX0, 6), (RX1, TX1, 9), (RX2, TX2, 8), (RX3, TX3, 5), (RX4, TX4, 3), (RX5, TX5, 5), (RX6, TX6, 15), (RX7, TX7, 1), (RX8, TX8, 3), (RX9, TX9, 14), (RX10, TX10, 14), (RX11, TX11, 23)]
theorem inX0 : ∀ w ∈ wsX00, w ∈ lw_tbl := by decide +kernel
theorem inX1 : ∀ w ∈ wsX10, w ∈ lw_tbl := by decide +kernel
theorem inX2 : ∀ w ∈ wsX20, w ∈ lw_tbl := by decide +kernel
theorem inX3 : ∀ w ∈ wsX30, w ∈ lw_tbl := by decide +kernel
theorem inX4 : ∀ w ∈ wsX40, w ∈ lw_tbl := by decide +kernel
theorem inX5 : ∀ w ∈ wsX50, w ∈ lw_tbl := by decide +kernel
theorem inX6 : ∀ w ∈ wsX60, w ∈ lw_tbl := by decide +kernel
theorem inX7 : ∀ w ∈ wsX70, w ∈ lw_tbl := by decide +kernel
theorem inX8 : ∀ w ∈ wsX80, w ∈ lw_tbl := by decide +kernel
theorem inX9 : ∀ w ∈ wsX90, w ∈ lw_tbl := by decide +kernel
theorem inX10 : ∀ w ∈ wsX100, w ∈ lw_tbl := by decide +kernel
theorem inX11 : ∀ w ∈ wsX110, w ∈ lw_tbl := by decide +kernel
end
section
/-! TABLES OF THE MINI MACHINE, laid by wip/whole/gen_tabs.py: class numbers 0..11 as in vwCl, 12 the law, 13 Integer, 14 Math -/
def mm_cn : Nat → String := fun k => match k with
  | 0 => RX0
  | 1 => RX1
  | 2 => RX2
  | 3 => RX3
  | 4 => RX4
  | 5 => RX5
  | 6 => RX6
  | 7 => RX7
  | 8 => RX8
  | 9 => RX9
  | 10 => RX10
  | 11 => RX11
  | 12 => RL
  | 13 => RJ6
  | _ => RJ9
def mm_TT : Nat → u_T := fun k => match k with
  | 0 => TX0
  | 1 => TX1
  | 2 => TX2
  | 3 => TX3
  | 4 => TX4
  | 5 => TX5
  | 6 => TX6
  | 7 => TX7
  | 8 => TX8
  | 9 => TX9
  | 10 => TX10
  | _ => TX11
def mm_ty : Nat → Nat → FieldType := fun k => match k with
  | 0 => tyX0
  | 1 => tyX1
  | 2 => tyX2
  | 3 => tyX3
  | 4 => tyX4
  | 5 => tyX5
  | 6 => tyX6
  | 7 => tyX7
  | 8 => tyX8
  | 9 => tyX9
  | 10 => tyX10
  | _ => tyX11
def mm_nf : Nat → Nat := fun k => match k with
  | 0 => 6
  | 1 => 9
  | 2 => 8
  | 3 => 5
  | 4 => 3
  | 5 => 5
  | 6 => 15
  | 7 => 1
  | 8 => 3
  | 9 => 14
  | 10 => 14
  | _ => 23
def mm_fin (ci k : Nat) : Bool := (mm_TT ci k).2.2.2
def mm_defv (ci : Nat) : List Value := (List.range (mm_nf ci)).map (fun k => defaultValue (mm_ty ci k))
def mm_txl : List (List Int32) := [[99, 108, 105, 101, 110, 116], [114, 101, 97, 100, 115], [119, 114, 105, 116, 101, 115], [111, 110, 108, 121], [118, 101, 114, 115, 105, 111, 110], [107, 101, 101, 112], [112, 117, 114, 115, 101], [116, 104, 101, 32, 116, 101, 120, 116, 32, 105, 115, 32, 119, 114, 111, 110, 103], [116, 104, 101, 114, 101, 32, 97, 114, 101, 32, 49, 50, 32, 116, 101, 120, 116, 115], [98, 108, 97, 109, 101], [115, 112, 97, 114, 101], [112, 97, 121], [105, 102], [110, 111, 116], [112, 105, 118, 111, 116], [114, 101, 116, 114, 105, 101, 100], [115, 108, 111, 116], [97, 103, 101], [114, 101, 116, 114, 105, 101, 115], [115, 116, 97, 109, 112], [97, 110, 100], [111, 114], [110, 111, 32, 115, 117, 99, 104, 32, 115, 108, 111, 116], [110, 111, 32, 115, 117, 99, 104, 32, 119, 104, 97, 116], [110, 111, 32, 115, 117, 99, 104, 32, 107, 101, 121], [110, 111, 32, 115, 117, 99, 104, 32, 99, 108, 105, 101, 110, 116], [49, 32, 116, 111, 32, 54, 48, 32, 116, 105, 99, 107, 115], [105, 116, 32, 114, 117, 110, 115, 44, 32, 111, 114, 32, 110, 111, 32, 115, 108, 111, 116, 32, 105, 115, 32, 102, 114, 101, 101], [116, 104, 101, 32, 115, 108, 111, 116, 32, 105, 115, 32, 110, 111, 116, 32, 114, 117, 110, 110, 105, 110, 103], [105, 116, 32, 111, 110, 108, 121, 32, 114, 101, 97, 100, 115, 44, 32, 111, 114, 32, 119, 97, 105, 116, 115], [48, 32, 116, 111, 32, 54, 32, 97, 114, 101, 32, 107, 101, 112, 116], [48, 32, 114, 101, 97, 100, 44, 32, 49, 32, 119, 114, 105, 116, 101, 44, 32, 50, 32, 99, 111, 109, 109, 105, 116], [98, 111, 116, 104, 32, 97, 114, 101, 32, 111, 110, 101, 32, 99, 108, 105, 101, 110, 116], [116, 104, 101, 32, 116, 97, 112, 101, 32, 100, 111, 101, 115, 32, 110, 111, 116, 32, 116, 101, 108, 108, 32, 114, 111, 119, 115], [48, 32, 116, 111, 32, 53], [48, 32, 116, 111, 32, 54, 48, 32, 116, 105, 99, 107, 115]]
def mm_txt (k : Nat) : List Int32 := mm_txl.getD k []
abbrev mm_M : Type := MethodName × ByteArray × Nat × Option FieldType × Nat × Bool × List (Nat × Nat × Nat × Nat) × List (Nat × Nat × Int) × List mm_I
/-- fields: (index, class, place) -/
def mm_flw (o : Nat) (q : Nat × Nat × Nat) : Jvm.Cond := .fieldLink (mm_cn o) q.1 (mm_TT q.2.1 q.2.2).1 (mm_TT q.2.1 q.2.2).2.1 (mm_TT q.2.1 q.2.2).2.2.1
def mm_fl0 : List (Nat × Nat × Nat) := [(9, 0, 0), (15, 0, 1), (18, 0, 2), (22, 0, 3), (25, 0, 4), (28, 0, 5)]
theorem mm_fl0_ok : ∀ q ∈ mm_fl0, mm_flw 0 q ∈ lw_tbl := List.forall_mem_cons.mpr ⟨List.mem_of_getElem? (i := 267) (by decide +kernel), List.forall_mem_cons.mpr ⟨List.mem_of_getElem? (i := 272) (by decide +kernel), List.forall_mem_cons.mpr ⟨List.mem_of_getElem? (i := 273) (by decide +kernel), List.forall_mem_cons.mpr ⟨List.mem_of_getElem? (i := 276) (by decide +kernel), List.forall_mem_cons.mpr ⟨List.mem_of_getElem? (i := 279) (by decide +kernel), List.forall_mem_cons.mpr ⟨List.mem_of_getElem? (i := 283) (by decide +kernel), List.forall_mem_nil _⟩⟩⟩⟩⟩⟩
def mm_fl1 : List (Nat × Nat × Nat) := [(9, 1, 0), (15, 1, 1), (18, 1, 2), (22, 1, 3), (25, 1, 4), (28, 1, 5), (31, 1, 6), (34, 1, 7), (37, 1, 8), (50, 6, 4), (53, 6, 6), (54, 6, 7), (57, 6, 9), (60, 6, 14)]
theorem mm_fl1_ok : ∀ q ∈ mm_fl1, mm_flw 1 q ∈ lw_tbl := List.forall_mem_cons.mpr ⟨List.mem_of_getElem? (i := 385) (by decide +kernel), List.forall_mem_cons.mpr ⟨List.mem_of_getElem? (i := 387) (by decide +kernel), List.forall_mem_cons.mpr ⟨List.mem_of_getElem? (i := 388) (by decide +kernel), List.forall_mem_cons.mpr ⟨List.mem_of_getElem? (i := 390) (by decide +kernel), List.forall_mem_cons.mpr ⟨List.mem_of_getElem? (i := 392) (by decide +kernel), List.forall_mem_cons.mpr ⟨List.mem_of_getElem? (i := 394) (by decide +kernel), List.forall_mem_cons.mpr ⟨List.mem_of_getElem? (i := 396) (by decide +kernel), List.forall_mem_cons.mpr ⟨List.mem_of_getElem? (i := 398) (by decide +kernel), List.forall_mem_cons.mpr ⟨List.mem_of_getElem? (i := 400) (by decide +kernel), List.forall_mem_cons.mpr ⟨List.mem_of_getElem? (i := 313) (by decide +kernel), List.forall_mem_cons.mpr ⟨List.mem_of_getElem? (i := 320) (by decide +kernel), List.forall_mem_cons.mpr ⟨List.mem_of_getElem? (i := 324) (by decide +kernel), List.forall_mem_cons.mpr ⟨List.mem_of_getElem? (i := 331) (by decide +kernel), List.forall_mem_cons.mpr ⟨List.mem_of_getElem? (i := 345) (by decide +kernel), List.forall_mem_nil _⟩⟩⟩⟩⟩⟩⟩⟩⟩⟩⟩⟩⟩⟩
def mm_fl2 : List (Nat × Nat × Nat) := [(9, 2, 0), (15, 2, 1), (18, 2, 2), (22, 2, 3), (25, 2, 4), (30, 2, 5), (33, 2, 6), (36, 2, 7)]
theorem mm_fl2_ok : ∀ q ∈ mm_fl2, mm_flw 2 q ∈ lw_tbl := List.forall_mem_cons.mpr ⟨List.mem_of_getElem? (i := 203) (by decide +kernel), List.forall_mem_cons.mpr ⟨List.mem_of_getElem? (i := 205) (by decide +kernel), List.forall_mem_cons.mpr ⟨List.mem_of_getElem? (i := 206) (by decide +kernel), List.forall_mem_cons.mpr ⟨List.mem_of_getElem? (i := 207) (by decide +kernel), List.forall_mem_cons.mpr ⟨List.mem_of_getElem? (i := 208) (by decide +kernel), List.forall_mem_cons.mpr ⟨List.mem_of_getElem? (i := 209) (by decide +kernel), List.forall_mem_cons.mpr ⟨List.mem_of_getElem? (i := 210) (by decide +kernel), List.forall_mem_cons.mpr ⟨List.mem_of_getElem? (i := 212) (by decide +kernel), List.forall_mem_nil _⟩⟩⟩⟩⟩⟩⟩⟩
def mm_fl3 : List (Nat × Nat × Nat) := [(12, 3, 0), (18, 3, 2), (22, 3, 3), (26, 3, 4), (29, 3, 1)]
theorem mm_fl3_ok : ∀ q ∈ mm_fl3, mm_flw 3 q ∈ lw_tbl := List.forall_mem_cons.mpr ⟨List.mem_of_getElem? (i := 238) (by decide +kernel), List.forall_mem_cons.mpr ⟨List.mem_of_getElem? (i := 241) (by decide +kernel), List.forall_mem_cons.mpr ⟨List.mem_of_getElem? (i := 242) (by decide +kernel), List.forall_mem_cons.mpr ⟨List.mem_of_getElem? (i := 243) (by decide +kernel), List.forall_mem_cons.mpr ⟨List.mem_of_getElem? (i := 240) (by decide +kernel), List.forall_mem_nil _⟩⟩⟩⟩⟩
def mm_fl4 : List (Nat × Nat × Nat) := [(9, 4, 0), (15, 4, 1), (18, 4, 2)]
theorem mm_fl4_ok : ∀ q ∈ mm_fl4, mm_flw 4 q ∈ lw_tbl := List.forall_mem_cons.mpr ⟨List.mem_of_getElem? (i := 426) (by decide +kernel), List.forall_mem_cons.mpr ⟨List.mem_of_getElem? (i := 428) (by decide +kernel), List.forall_mem_cons.mpr ⟨List.mem_of_getElem? (i := 429) (by decide +kernel), List.forall_mem_nil _⟩⟩⟩
def mm_fl5 : List (Nat × Nat × Nat) := [(9, 5, 1), (15, 5, 2), (18, 5, 3), (21, 5, 4), (25, 5, 0), (29, 0, 0), (75, 0, 4)]
theorem mm_fl5_ok : ∀ q ∈ mm_fl5, mm_flw 5 q ∈ lw_tbl := List.forall_mem_cons.mpr ⟨List.mem_of_getElem? (i := 515) (by decide +kernel), List.forall_mem_cons.mpr ⟨List.mem_of_getElem? (i := 516) (by decide +kernel), List.forall_mem_cons.mpr ⟨List.mem_of_getElem? (i := 517) (by decide +kernel), List.forall_mem_cons.mpr ⟨List.mem_of_getElem? (i := 518) (by decide +kernel), List.forall_mem_cons.mpr ⟨List.mem_of_getElem? (i := 514) (by decide +kernel), List.forall_mem_cons.mpr ⟨List.mem_of_getElem? (i := 268) (by decide +kernel), List.forall_mem_cons.mpr ⟨List.mem_of_getElem? (i := 282) (by decide +kernel), List.forall_mem_nil _⟩⟩⟩⟩⟩⟩⟩
def mm_fl6 : List (Nat × Nat × Nat) := [(9, 6, 0), (15, 6, 1), (18, 6, 2), (21, 6, 3), (24, 6, 4), (28, 6, 5), (31, 6, 6), (34, 6, 7), (37, 6, 8), (40, 6, 9), (43, 6, 10), (46, 6, 11), (49, 6, 12), (52, 6, 13), (55, 6, 14)]
theorem mm_fl6_ok : ∀ q ∈ mm_fl6, mm_flw 6 q ∈ lw_tbl := List.forall_mem_cons.mpr ⟨List.mem_of_getElem? (i := 305) (by decide +kernel), List.forall_mem_cons.mpr ⟨List.mem_of_getElem? (i := 307) (by decide +kernel), List.forall_mem_cons.mpr ⟨List.mem_of_getElem? (i := 310) (by decide +kernel), List.forall_mem_cons.mpr ⟨List.mem_of_getElem? (i := 311) (by decide +kernel), List.forall_mem_cons.mpr ⟨List.mem_of_getElem? (i := 312) (by decide +kernel), List.forall_mem_cons.mpr ⟨List.mem_of_getElem? (i := 316) (by decide +kernel), List.forall_mem_cons.mpr ⟨List.mem_of_getElem? (i := 319) (by decide +kernel), List.forall_mem_cons.mpr ⟨List.mem_of_getElem? (i := 323) (by decide +kernel), List.forall_mem_cons.mpr ⟨List.mem_of_getElem? (i := 327) (by decide +kernel), List.forall_mem_cons.mpr ⟨List.mem_of_getElem? (i := 330) (by decide +kernel), List.forall_mem_cons.mpr ⟨List.mem_of_getElem? (i := 334) (by decide +kernel), List.forall_mem_cons.mpr ⟨List.mem_of_getElem? (i := 337) (by decide +kernel), List.forall_mem_cons.mpr ⟨List.mem_of_getElem? (i := 340) (by decide +kernel), List.forall_mem_cons.mpr ⟨List.mem_of_getElem? (i := 342) (by decide +kernel), List.forall_mem_cons.mpr ⟨List.mem_of_getElem? (i := 344) (by decide +kernel), List.forall_mem_nil _⟩⟩⟩⟩⟩⟩⟩⟩⟩⟩⟩⟩⟩⟩⟩
def mm_fl7 : List (Nat × Nat × Nat) := [(9, 7, 0), (32, 9, 1), (38, 0, 0), (65, 9, 10), (69, 9, 11), (91, 9, 2), (100, 9, 5)]
theorem mm_fl7_ok : ∀ q ∈ mm_fl7, mm_flw 7 q ∈ lw_tbl := List.forall_mem_cons.mpr ⟨List.mem_of_getElem? (i := 504) (by decide +kernel), List.forall_mem_cons.mpr ⟨List.mem_of_getElem? (i := 440) (by decide +kernel), List.forall_mem_cons.mpr ⟨List.mem_of_getElem? (i := 269) (by decide +kernel), List.forall_mem_cons.mpr ⟨List.mem_of_getElem? (i := 460) (by decide +kernel), List.forall_mem_cons.mpr ⟨List.mem_of_getElem? (i := 463) (by decide +kernel), List.forall_mem_cons.mpr ⟨List.mem_of_getElem? (i := 442) (by decide +kernel), List.forall_mem_cons.mpr ⟨List.mem_of_getElem? (i := 449) (by decide +kernel), List.forall_mem_nil _⟩⟩⟩⟩⟩⟩⟩
def mm_fl8 : List (Nat × Nat × Nat) := [(11, 8, 0), (15, 8, 1), (19, 8, 2)]
theorem mm_fl8_ok : ∀ q ∈ mm_fl8, mm_flw 8 q ∈ lw_tbl := List.forall_mem_cons.mpr ⟨List.mem_of_getElem? (i := 183) (by decide +kernel), List.forall_mem_cons.mpr ⟨List.mem_of_getElem? (i := 185) (by decide +kernel), List.forall_mem_cons.mpr ⟨List.mem_of_getElem? (i := 187) (by decide +kernel), List.forall_mem_nil _⟩⟩⟩
def mm_fl9 : List (Nat × Nat × Nat) := [(12, 9, 1), (21, 9, 2), (28, 9, 3), (35, 9, 4), (39, 9, 5), (43, 9, 6), (46, 9, 7), (49, 9, 8), (52, 9, 9), (56, 9, 10), (59, 9, 11), (62, 9, 12), (65, 9, 13), (68, 9, 0), (91, 0, 0), (119, 0, 2), (122, 6, 7), (130, 0, 3), (133, 6, 9), (147, 6, 14), (153, 6, 8), (159, 6, 5), (162, 6, 10), (179, 6, 11), (197, 6, 4), (200, 0, 5), (203, 0, 4), (246, 2, 6), (261, 6, 6), (267, 6, 1)]
theorem mm_fl9_ok : ∀ q ∈ mm_fl9, mm_flw 9 q ∈ lw_tbl := List.forall_mem_cons.mpr ⟨List.mem_of_getElem? (i := 438) (by decide +kernel), List.forall_mem_cons.mpr ⟨List.mem_of_getElem? (i := 441) (by decide +kernel), List.forall_mem_cons.mpr ⟨List.mem_of_getElem? (i := 444) (by decide +kernel), List.forall_mem_cons.mpr ⟨List.mem_of_getElem? (i := 446) (by decide +kernel), List.forall_mem_cons.mpr ⟨List.mem_of_getElem? (i := 448) (by decide +kernel), List.forall_mem_cons.mpr ⟨List.mem_of_getElem? (i := 451) (by decide +kernel), List.forall_mem_cons.mpr ⟨List.mem_of_getElem? (i := 453) (by decide +kernel), List.forall_mem_cons.mpr ⟨List.mem_of_getElem? (i := 455) (by decide +kernel), List.forall_mem_cons.mpr ⟨List.mem_of_getElem? (i := 457) (by decide +kernel), List.forall_mem_cons.mpr ⟨List.mem_of_getElem? (i := 459) (by decide +kernel), List.forall_mem_cons.mpr ⟨List.mem_of_getElem? (i := 462) (by decide +kernel), List.forall_mem_cons.mpr ⟨List.mem_of_getElem? (i := 465) (by decide +kernel), List.forall_mem_cons.mpr ⟨List.mem_of_getElem? (i := 467) (by decide +kernel), List.forall_mem_cons.mpr ⟨List.mem_of_getElem? (i := 437) (by decide +kernel), List.forall_mem_cons.mpr ⟨List.mem_of_getElem? (i := 270) (by decide +kernel), List.forall_mem_cons.mpr ⟨List.mem_of_getElem? (i := 274) (by decide +kernel), List.forall_mem_cons.mpr ⟨List.mem_of_getElem? (i := 325) (by decide +kernel), List.forall_mem_cons.mpr ⟨List.mem_of_getElem? (i := 277) (by decide +kernel), List.forall_mem_cons.mpr ⟨List.mem_of_getElem? (i := 332) (by decide +kernel), List.forall_mem_cons.mpr ⟨List.mem_of_getElem? (i := 346) (by decide +kernel), List.forall_mem_cons.mpr ⟨List.mem_of_getElem? (i := 328) (by decide +kernel), List.forall_mem_cons.mpr ⟨List.mem_of_getElem? (i := 317) (by decide +kernel), List.forall_mem_cons.mpr ⟨List.mem_of_getElem? (i := 335) (by decide +kernel), List.forall_mem_cons.mpr ⟨List.mem_of_getElem? (i := 338) (by decide +kernel), List.forall_mem_cons.mpr ⟨List.mem_of_getElem? (i := 315) (by decide +kernel), List.forall_mem_cons.mpr ⟨List.mem_of_getElem? (i := 284) (by decide +kernel), List.forall_mem_cons.mpr ⟨List.mem_of_getElem? (i := 280) (by decide +kernel), List.forall_mem_cons.mpr ⟨List.mem_of_getElem? (i := 211) (by decide +kernel), List.forall_mem_cons.mpr ⟨List.mem_of_getElem? (i := 322) (by decide +kernel), List.forall_mem_cons.mpr ⟨List.mem_of_getElem? (i := 308) (by decide +kernel), List.forall_mem_nil _⟩⟩⟩⟩⟩⟩⟩⟩⟩⟩⟩⟩⟩⟩⟩⟩⟩⟩⟩⟩⟩⟩⟩⟩⟩⟩⟩⟩⟩⟩
def mm_fl10 : List (Nat × Nat × Nat) := [(10, 10, 0), (19, 10, 1), (23, 10, 2), (31, 10, 3), (40, 10, 4), (44, 10, 5), (47, 10, 6), (53, 10, 7), (59, 9, 1), (66, 10, 8), (70, 10, 9), (74, 10, 10), (78, 10, 11), (81, 10, 12), (85, 10, 13), (88, 8, 1), (114, 9, 13), (131, 3, 0), (136, 2, 0), (139, 8, 2), (152, 9, 2), (165, 6, 4), (169, 6, 5), (172, 6, 6), (175, 6, 7), (178, 6, 8), (181, 6, 9), (184, 6, 12), (187, 6, 13), (200, 6, 10), (203, 6, 11), (215, 6, 14), (218, 9, 5), (221, 9, 6), (224, 9, 7), (227, 9, 8), (236, 0, 2), (241, 0, 3), (247, 0, 4), (250, 0, 5), (311, 9, 10), (314, 9, 12), (319, 6, 0), (328, 9, 3), (332, 1, 0), (340, 1, 2), (341, 1, 3), (342, 1, 4), (345, 1, 5), (348, 1, 7), (351, 1, 6), (357, 9, 4), (397, 0, 0), (434, 8, 0), (437, 6, 1), (443, 9, 11), (452, 9, 9), (461, 4, 0)]
theorem mm_fl10_ok : ∀ q ∈ mm_fl10, mm_flw 10 q ∈ lw_tbl := List.forall_mem_cons.mpr ⟨List.mem_of_getElem? (i := 531) (by decide +kernel), List.forall_mem_cons.mpr ⟨List.mem_of_getElem? (i := 532) (by decide +kernel), List.forall_mem_cons.mpr ⟨List.mem_of_getElem? (i := 533) (by decide +kernel), List.forall_mem_cons.mpr ⟨List.mem_of_getElem? (i := 534) (by decide +kernel), List.forall_mem_cons.mpr ⟨List.mem_of_getElem? (i := 535) (by decide +kernel), List.forall_mem_cons.mpr ⟨List.mem_of_getElem? (i := 536) (by decide +kernel), List.forall_mem_cons.mpr ⟨List.mem_of_getElem? (i := 537) (by decide +kernel), List.forall_mem_cons.mpr ⟨List.mem_of_getElem? (i := 538) (by decide +kernel), List.forall_mem_cons.mpr ⟨List.mem_of_getElem? (i := 439) (by decide +kernel), List.forall_mem_cons.mpr ⟨List.mem_of_getElem? (i := 539) (by decide +kernel), List.forall_mem_cons.mpr ⟨List.mem_of_getElem? (i := 540) (by decide +kernel), List.forall_mem_cons.mpr ⟨List.mem_of_getElem? (i := 541) (by decide +kernel), List.forall_mem_cons.mpr ⟨List.mem_of_getElem? (i := 542) (by decide +kernel), List.forall_mem_cons.mpr ⟨List.mem_of_getElem? (i := 543) (by decide +kernel), List.forall_mem_cons.mpr ⟨List.mem_of_getElem? (i := 544) (by decide +kernel), List.forall_mem_cons.mpr ⟨List.mem_of_getElem? (i := 186) (by decide +kernel), List.forall_mem_cons.mpr ⟨List.mem_of_getElem? (i := 468) (by decide +kernel), List.forall_mem_cons.mpr ⟨List.mem_of_getElem? (i := 239) (by decide +kernel), List.forall_mem_cons.mpr ⟨List.mem_of_getElem? (i := 204) (by decide +kernel), List.forall_mem_cons.mpr ⟨List.mem_of_getElem? (i := 188) (by decide +kernel), List.forall_mem_cons.mpr ⟨List.mem_of_getElem? (i := 443) (by decide +kernel), List.forall_mem_cons.mpr ⟨List.mem_of_getElem? (i := 314) (by decide +kernel), List.forall_mem_cons.mpr ⟨List.mem_of_getElem? (i := 318) (by decide +kernel), List.forall_mem_cons.mpr ⟨List.mem_of_getElem? (i := 321) (by decide +kernel), List.forall_mem_cons.mpr ⟨List.mem_of_getElem? (i := 326) (by decide +kernel), List.forall_mem_cons.mpr ⟨List.mem_of_getElem? (i := 329) (by decide +kernel), List.forall_mem_cons.mpr ⟨List.mem_of_getElem? (i := 333) (by decide +kernel), List.forall_mem_cons.mpr ⟨List.mem_of_getElem? (i := 341) (by decide +kernel), List.forall_mem_cons.mpr ⟨List.mem_of_getElem? (i := 343) (by decide +kernel), List.forall_mem_cons.mpr ⟨List.mem_of_getElem? (i := 336) (by decide +kernel), List.forall_mem_cons.mpr ⟨List.mem_of_getElem? (i := 339) (by decide +kernel), List.forall_mem_cons.mpr ⟨List.mem_of_getElem? (i := 347) (by decide +kernel), List.forall_mem_cons.mpr ⟨List.mem_of_getElem? (i := 450) (by decide +kernel), List.forall_mem_cons.mpr ⟨List.mem_of_getElem? (i := 452) (by decide +kernel), List.forall_mem_cons.mpr ⟨List.mem_of_getElem? (i := 454) (by decide +kernel), List.forall_mem_cons.mpr ⟨List.mem_of_getElem? (i := 456) (by decide +kernel), List.forall_mem_cons.mpr ⟨List.mem_of_getElem? (i := 275) (by decide +kernel), List.forall_mem_cons.mpr ⟨List.mem_of_getElem? (i := 278) (by decide +kernel), List.forall_mem_cons.mpr ⟨List.mem_of_getElem? (i := 281) (by decide +kernel), List.forall_mem_cons.mpr ⟨List.mem_of_getElem? (i := 285) (by decide +kernel), List.forall_mem_cons.mpr ⟨List.mem_of_getElem? (i := 461) (by decide +kernel), List.forall_mem_cons.mpr ⟨List.mem_of_getElem? (i := 466) (by decide +kernel), List.forall_mem_cons.mpr ⟨List.mem_of_getElem? (i := 306) (by decide +kernel), List.forall_mem_cons.mpr ⟨List.mem_of_getElem? (i := 445) (by decide +kernel), List.forall_mem_cons.mpr ⟨List.mem_of_getElem? (i := 386) (by decide +kernel), List.forall_mem_cons.mpr ⟨List.mem_of_getElem? (i := 389) (by decide +kernel), List.forall_mem_cons.mpr ⟨List.mem_of_getElem? (i := 391) (by decide +kernel), List.forall_mem_cons.mpr ⟨List.mem_of_getElem? (i := 393) (by decide +kernel), List.forall_mem_cons.mpr ⟨List.mem_of_getElem? (i := 395) (by decide +kernel), List.forall_mem_cons.mpr ⟨List.mem_of_getElem? (i := 399) (by decide +kernel), List.forall_mem_cons.mpr ⟨List.mem_of_getElem? (i := 397) (by decide +kernel), List.forall_mem_cons.mpr ⟨List.mem_of_getElem? (i := 447) (by decide +kernel), List.forall_mem_cons.mpr ⟨List.mem_of_getElem? (i := 271) (by decide +kernel), List.forall_mem_cons.mpr ⟨List.mem_of_getElem? (i := 184) (by decide +kernel), List.forall_mem_cons.mpr ⟨List.mem_of_getElem? (i := 309) (by decide +kernel), List.forall_mem_cons.mpr ⟨List.mem_of_getElem? (i := 464) (by decide +kernel), List.forall_mem_cons.mpr ⟨List.mem_of_getElem? (i := 458) (by decide +kernel), List.forall_mem_cons.mpr ⟨List.mem_of_getElem? (i := 427) (by decide +kernel), List.forall_mem_nil _⟩⟩⟩⟩⟩⟩⟩⟩⟩⟩⟩⟩⟩⟩⟩⟩⟩⟩⟩⟩⟩⟩⟩⟩⟩⟩⟩⟩⟩⟩⟩⟩⟩⟩⟩⟩⟩⟩⟩⟩⟩⟩⟩⟩⟩⟩⟩⟩⟩⟩⟩⟩⟩⟩⟩⟩⟩⟩
def mm_fl11 : List (Nat × Nat × Nat) := [(3, 11, 0), (13, 11, 1), (17, 11, 2), (20, 11, 3), (23, 11, 4), (26, 11, 5), (29, 11, 8), (33, 11, 14), (36, 11, 15), (39, 11, 17), (42, 11, 19), (45, 11, 21), (48, 11, 22), (52, 11, 6), (56, 11, 7), (84, 11, 9), (87, 11, 10), (90, 11, 11), (96, 11, 12), (172, 11, 16), (200, 11, 13), (292, 11, 18), (435, 11, 20)]
theorem mm_fl11_ok : ∀ q ∈ mm_fl11, mm_flw 11 q ∈ lw_tbl := List.forall_mem_cons.mpr ⟨List.mem_of_getElem? (i := 1659) (by decide +kernel), List.forall_mem_cons.mpr ⟨List.mem_of_getElem? (i := 1660) (by decide +kernel), List.forall_mem_cons.mpr ⟨List.mem_of_getElem? (i := 1661) (by decide +kernel), List.forall_mem_cons.mpr ⟨List.mem_of_getElem? (i := 1662) (by decide +kernel), List.forall_mem_cons.mpr ⟨List.mem_of_getElem? (i := 1663) (by decide +kernel), List.forall_mem_cons.mpr ⟨List.mem_of_getElem? (i := 1664) (by decide +kernel), List.forall_mem_cons.mpr ⟨List.mem_of_getElem? (i := 1667) (by decide +kernel), List.forall_mem_cons.mpr ⟨List.mem_of_getElem? (i := 1673) (by decide +kernel), List.forall_mem_cons.mpr ⟨List.mem_of_getElem? (i := 1674) (by decide +kernel), List.forall_mem_cons.mpr ⟨List.mem_of_getElem? (i := 1676) (by decide +kernel), List.forall_mem_cons.mpr ⟨List.mem_of_getElem? (i := 1678) (by decide +kernel), List.forall_mem_cons.mpr ⟨List.mem_of_getElem? (i := 1680) (by decide +kernel), List.forall_mem_cons.mpr ⟨List.mem_of_getElem? (i := 1681) (by decide +kernel), List.forall_mem_cons.mpr ⟨List.mem_of_getElem? (i := 1665) (by decide +kernel), List.forall_mem_cons.mpr ⟨List.mem_of_getElem? (i := 1666) (by decide +kernel), List.forall_mem_cons.mpr ⟨List.mem_of_getElem? (i := 1668) (by decide +kernel), List.forall_mem_cons.mpr ⟨List.mem_of_getElem? (i := 1669) (by decide +kernel), List.forall_mem_cons.mpr ⟨List.mem_of_getElem? (i := 1670) (by decide +kernel), List.forall_mem_cons.mpr ⟨List.mem_of_getElem? (i := 1671) (by decide +kernel), List.forall_mem_cons.mpr ⟨List.mem_of_getElem? (i := 1675) (by decide +kernel), List.forall_mem_cons.mpr ⟨List.mem_of_getElem? (i := 1672) (by decide +kernel), List.forall_mem_cons.mpr ⟨List.mem_of_getElem? (i := 1677) (by decide +kernel), List.forall_mem_cons.mpr ⟨List.mem_of_getElem? (i := 1679) (by decide +kernel), List.forall_mem_nil _⟩⟩⟩⟩⟩⟩⟩⟩⟩⟩⟩⟩⟩⟩⟩⟩⟩⟩⟩⟩⟩⟩⟩
def mm_fl12 : List (Nat × Nat × Nat) := []
theorem mm_fl12_ok : ∀ q ∈ mm_fl12, mm_flw 12 q ∈ lw_tbl := List.forall_mem_nil _
def mm_fl13 : List (Nat × Nat × Nat) := []
theorem mm_fl13_ok : ∀ q ∈ mm_fl13, mm_flw 13 q ∈ lw_tbl := List.forall_mem_nil _
def mm_fl14 : List (Nat × Nat × Nat) := []
theorem mm_fl14_ok : ∀ q ∈ mm_fl14, mm_flw 14 q ∈ lw_tbl := List.forall_mem_nil _
def mm_fl : Nat → List (Nat × Nat × Nat) := fun k => match k with
  | 0 => mm_fl0
  | 1 => mm_fl1
  | 2 => mm_fl2
  | 3 => mm_fl3
  | 4 => mm_fl4
  | 5 => mm_fl5
  | 6 => mm_fl6
  | 7 => mm_fl7
  | 8 => mm_fl8
  | 9 => mm_fl9
  | 10 => mm_fl10
  | 11 => mm_fl11
  | 12 => mm_fl12
  | 13 => mm_fl13
  | 14 => mm_fl14
  | _ => []
theorem mm_fl_ok (o : Nat) : ∀ q ∈ mm_fl o, mm_flw o q ∈ lw_tbl := match o with
  | 0 => mm_fl0_ok
  | 1 => mm_fl1_ok
  | 2 => mm_fl2_ok
  | 3 => mm_fl3_ok
  | 4 => mm_fl4_ok
  | 5 => mm_fl5_ok
  | 6 => mm_fl6_ok
  | 7 => mm_fl7_ok
  | 8 => mm_fl8_ok
  | 9 => mm_fl9_ok
  | 10 => mm_fl10_ok
  | 11 => mm_fl11_ok
  | 12 => mm_fl12_ok
  | 13 => mm_fl13_ok
  | 14 => mm_fl14_ok
  | _ + 15 => fun _ h => nomatch h
def mm_deq (x : Except DecodeError (Instr × Nat)) (i : Instr) (n : Nat) : Bool := match x with
  | .ok q => decide (q = (i, n))
  | _ => false
end
section
def mm_k0 : List mm_I := [(0, .aload_n 0, 1, 0, 0), (1, .invokespecial 3, 3, 1, 0), (4, .aload_n 0, 1, 0, 0), (5, .iconst 0, 1, 0, 0), (6, .putfield 9, 3, 0, 0), (9, .aload_n 0, 1, 0, 0), (10, .iconst 0, 1, 0, 0), (11, .putfield 15, 3, 0, 1), (14, .aload_n 0, 1, 0, 0), (15, .iconst 5, 1, 0, 0), (16, .newarray .int, 2, 0, 0), (18, .putfield 18, 3, 0, 2), (21, .aload_n 0, 1, 0, 0), (22, .iconst 5, 1, 0, 0), (23, .newarray .int, 2, 0, 0), (25, .putfield 22, 3, 0, 3), (28, .aload_n 0, 1, 0, 0), (29, .iconst 5, 1, 0, 0), (30, .newarray .int, 2, 0, 0), (32, .putfield 25, 3, 0, 4), (35, .aload_n 0, 1, 0, 0), (36, .iconst 5, 1, 0, 0), (37, .newarray .int, 2, 0, 0), (39, .putfield 28, 3, 0, 5), (42, .return_, 1, 0, 0)]
/-- SerialGate$Clients.<init>()V -/
def mm_M0 : mm_M := (yX0_init, cX0_init, 1, none, 0, true, [], [], mm_k0)
theorem mm_d0 : mm_k0.all (fun q => mm_deq (decode cX0_init q.1) q.2.1 q.2.2.1) = true := by decide +kernel
def mm_k1 : List mm_I := [(0, .aload_n 0, 1, 0, 0), (1, .aload_n 1, 1, 0, 0), (2, .getfield 9, 3, 0, 0), (5, .putfield 9, 3, 0, 0), (8, .aload_n 0, 1, 0, 0), (9, .aload_n 1, 1, 0, 0), (10, .getfield 15, 3, 0, 1), (13, .putfield 15, 3, 0, 1), (16, .aload_n 1, 1, 0, 0), (17, .getfield 18, 3, 0, 2), (20, .iconst 0, 1, 0, 0), (21, .aload_n 0, 1, 0, 0), (22, .getfield 18, 3, 0, 2), (25, .iconst 0, 1, 0, 0), (26, .iconst 5, 1, 0, 0), (27, .invokestatic 31, 3, 1, 0), (30, .aload_n 1, 1, 0, 0), (31, .getfield 22, 3, 0, 3), (34, .iconst 0, 1, 0, 0), (35, .aload_n 0, 1, 0, 0), (36, .getfield 22, 3, 0, 3), (39, .iconst 0, 1, 0, 0), (40, .iconst 5, 1, 0, 0), (41, .invokestatic 31, 3, 1, 0), (44, .aload_n 1, 1, 0, 0), (45, .getfield 25, 3, 0, 4), (48, .iconst 0, 1, 0, 0), (49, .aload_n 0, 1, 0, 0), (50, .getfield 25, 3, 0, 4), (53, .iconst 0, 1, 0, 0), (54, .iconst 5, 1, 0, 0), (55, .invokestatic 31, 3, 1, 0), (58, .aload_n 1, 1, 0, 0), (59, .getfield 28, 3, 0, 5), (62, .iconst 0, 1, 0, 0), (63, .aload_n 0, 1, 0, 0), (64, .getfield 28, 3, 0, 5), (67, .iconst 0, 1, 0, 0), (68, .iconst 5, 1, 0, 0), (69, .invokestatic 31, 3, 1, 0), (72, .return_, 1, 0, 0)]
/-- SerialGate$Clients.copyFrom(LSerialGate$Clients;)V -/
def mm_M1 : mm_M := (yX0_copyFrom, cX0_copyFrom, 2, none, 0, false, [], [], mm_k1)
theorem mm_d1 : mm_k1.all (fun q => mm_deq (decode cX0_copyFrom q.1) q.2.1 q.2.2.1) = true := by decide +kernel
def mm_k2 : List mm_I := [(0, .aload_n 0, 1, 0, 0), (1, .getfield 9, 3, 0, 0), (4, .iconst 5, 1, 0, 0), (5, .if_icmp .lt 4, 3, 0, 0), (8, .return_, 1, 0, 0), (9, .aload_n 0, 1, 0, 0), (10, .getfield 18, 3, 0, 2), (13, .aload_n 0, 1, 0, 0), (14, .getfield 9, 3, 0, 0), (17, .iload_n 1, 1, 0, 0), (18, .iastore, 1, 0, 0), (19, .aload_n 0, 1, 0, 0), (20, .getfield 22, 3, 0, 3), (23, .aload_n 0, 1, 0, 0), (24, .getfield 9, 3, 0, 0), (27, .iload_n 2, 1, 0, 0), (28, .iastore, 1, 0, 0), (29, .iload_n 3, 1, 0, 0), (30, .ifCond .eq 18, 3, 0, 0), (33, .aload_n 0, 1, 0, 0), (34, .dup, 1, 0, 0), (35, .getfield 15, 3, 0, 1), (38, .iconst 1, 1, 0, 0), (39, .aload_n 0, 1, 0, 0), (40, .getfield 9, 3, 0, 0), (43, .ishl, 1, 0, 0), (44, .ior, 1, 0, 0), (45, .putfield 15, 3, 0, 1), (48, .aload_n 0, 1, 0, 0), (49, .dup, 1, 0, 0), (50, .getfield 9, 3, 0, 0), (53, .iconst 1, 1, 0, 0), (54, .iadd, 1, 0, 0), (55, .putfield 9, 3, 0, 0), (58, .return_, 1, 0, 0)]
/-- SerialGate$Clients.add(IIZ)V -/
def mm_M2 : mm_M := (yX0_add, cX0_add, 4, none, 0, false, [], [], mm_k2)
theorem mm_d2 : mm_k2.all (fun q => mm_deq (decode cX0_add q.1) q.2.1 q.2.2.1) = true := by decide +kernel
def mm_k3 : List mm_I := [(0, .aload_n 0, 1, 0, 0), (1, .getfield 15, 3, 0, 1), (4, .iload_n 1, 1, 0, 0), (5, .ishr, 1, 0, 0), (6, .iconst 1, 1, 0, 0), (7, .iand, 1, 0, 0), (8, .ifCond .eq 7, 3, 0, 0), (11, .iconst 1, 1, 0, 0), (12, .goto 4, 3, 0, 0), (15, .iconst 0, 1, 0, 0), (16, .ireturn, 1, 0, 0)]
/-- SerialGate$Clients.isOnly(I)Z -/
def mm_M3 : mm_M := (yX0_isOnly, cX0_isOnly, 2, (some .boolean), 0, false, [], [], mm_k3)
theorem mm_d3 : mm_k3.all (fun q => mm_deq (decode cX0_isOnly q.1) q.2.1 q.2.2.1) = true := by decide +kernel
def mm_k4 : List mm_I := [(0, .aload_n 0, 1, 0, 0), (1, .getfield 18, 3, 0, 2), (4, .iload_n 1, 1, 0, 0), (5, .iaload, 1, 0, 0), (6, .aload_n 0, 1, 0, 0), (7, .getfield 22, 3, 0, 3), (10, .iload_n 1, 1, 0, 0), (11, .iaload, 1, 0, 0), (12, .ior, 1, 0, 0), (13, .ireturn, 1, 0, 0)]
/-- SerialGate$Clients.usedBy(I)I -/
def mm_M4 : mm_M := (yX0_usedBy, cX0_usedBy, 2, (some .int), 0, false, [], [], mm_k4)
theorem mm_d4 : mm_k4.all (fun q => mm_deq (decode cX0_usedBy q.1) q.2.1 q.2.2.1) = true := by decide +kernel
def mm_k5 : List mm_I := [(0, .aload_n 0, 1, 0, 0), (1, .getfield 22, 3, 0, 3), (4, .iload_n 1, 1, 0, 0), (5, .iaload, 1, 0, 0), (6, .aload_n 0, 1, 0, 0), (7, .iload_n 2, 1, 0, 0), (8, .invokevirtual 37, 3, 0, 4), (11, .iand, 1, 0, 0), (12, .ifCond .ne 18, 3, 0, 0), (15, .aload_n 0, 1, 0, 0), (16, .getfield 22, 3, 0, 3), (19, .iload_n 2, 1, 0, 0), (20, .iaload, 1, 0, 0), (21, .aload_n 0, 1, 0, 0), (22, .iload_n 1, 1, 0, 0), (23, .invokevirtual 37, 3, 0, 4), (26, .iand, 1, 0, 0), (27, .ifCond .eq 7, 3, 0, 0), (30, .iconst 1, 1, 0, 0), (31, .goto 4, 3, 0, 0), (34, .iconst 0, 1, 0, 0), (35, .ireturn, 1, 0, 0)]
/-- SerialGate$Clients.areClashing(II)Z -/
def mm_M5 : mm_M := (yX0_areClashing, cX0_areClashing, 3, (some .boolean), 0, false, [], [], mm_k5)
theorem mm_d5 : mm_k5.all (fun q => mm_deq (decode cX0_areClashing q.1) q.2.1 q.2.2.1) = true := by decide +kernel
def mm_k6 : List mm_I := [(0, .iconst 0, 1, 0, 0), (1, .istore_n 2, 1, 0, 0), (2, .iconst 0, 1, 0, 0), (3, .istore_n 3, 1, 0, 0), (4, .iload_n 3, 1, 0, 0), (5, .aload_n 0, 1, 0, 0), (6, .getfield 9, 3, 0, 0), (9, .if_icmp .ge 50, 3, 0, 0), (12, .iload_n 1, 1, 0, 0), (13, .bipush 10, 2, 0, 0), (15, .if_icmp .ge 16, 3, 0, 0), (18, .aload_n 0, 1, 0, 0), (19, .getfield 18, 3, 0, 2), (22, .iload_n 3, 1, 0, 0), (23, .iaload, 1, 0, 0), (24, .iload_n 1, 1, 0, 0), (25, .ishr, 1, 0, 0), (26, .iconst 1, 1, 0, 0), (27, .iand, 1, 0, 0), (28, .goto 16, 3, 0, 0), (31, .aload_n 0, 1, 0, 0), (32, .getfield 22, 3, 0, 3), (35, .iload_n 3, 1, 0, 0), (36, .iaload, 1, 0, 0), (37, .iload_n 1, 1, 0, 0), (38, .bipush 10, 2, 0, 0), (40, .isub, 1, 0, 0), (41, .ishr, 1, 0, 0), (42, .iconst 1, 1, 0, 0), (43, .iand, 1, 0, 0), (44, .istore 4, 2, 0, 0), (46, .iload_n 2, 1, 0, 0), (47, .iload 4, 2, 0, 0), (49, .iload_n 3, 1, 0, 0), (50, .ishl, 1, 0, 0), (51, .ior, 1, 0, 0), (52, .istore_n 2, 1, 0, 0), (53, .iinc 3 1, 3, 0, 0), (56, .goto (-52), 3, 0, 0), (59, .iload_n 2, 1, 0, 0), (60, .ireturn, 1, 0, 0)]
/-- SerialGate$Clients.doersOf(I)I -/
def mm_M6 : mm_M := (yX0_doersOf, cX0_doersOf, 5, (some .int), 0, false, [], [], mm_k6)
theorem mm_d6 : mm_k6.all (fun q => mm_deq (decode cX0_doersOf q.1) q.2.1 q.2.2.1) = true := by decide +kernel
def mm_k7 : List mm_I := [(0, .iconst 0, 1, 0, 0), (1, .istore_n 1, 1, 0, 0), (2, .iconst 0, 1, 0, 0), (3, .istore_n 2, 1, 0, 0), (4, .iload_n 2, 1, 0, 0), (5, .aload_n 0, 1, 0, 0), (6, .getfield 9, 3, 0, 0), (9, .if_icmp .ge 18, 3, 0, 0), (12, .iload_n 1, 1, 0, 0), (13, .aload_n 0, 1, 0, 0), (14, .getfield 28, 3, 0, 5), (17, .iload_n 2, 1, 0, 0), (18, .iaload, 1, 0, 0), (19, .iadd, 1, 0, 0), (20, .istore_n 1, 1, 0, 0), (21, .iinc 2 1, 3, 0, 0), (24, .goto (-20), 3, 0, 0), (27, .iload_n 1, 1, 0, 0), (28, .ireturn, 1, 0, 0)]
/-- SerialGate$Clients.allDone()I -/
def mm_M7 : mm_M := (yX0_allDone, cX0_allDone, 3, (some .int), 0, false, [], [], mm_k7)
theorem mm_d7 : mm_k7.all (fun q => mm_deq (decode cX0_allDone q.1) q.2.1 q.2.2.1) = true := by decide +kernel
def mm_k8 : List mm_I := [(0, .iconst 0, 1, 0, 0), (1, .istore_n 1, 1, 0, 0), (2, .iconst 0, 1, 0, 0), (3, .istore_n 2, 1, 0, 0), (4, .iload_n 2, 1, 0, 0), (5, .aload_n 0, 1, 0, 0), (6, .getfield 9, 3, 0, 0), (9, .if_icmp .ge 18, 3, 0, 0), (12, .iload_n 1, 1, 0, 0), (13, .aload_n 0, 1, 0, 0), (14, .getfield 25, 3, 0, 4), (17, .iload_n 2, 1, 0, 0), (18, .iaload, 1, 0, 0), (19, .iadd, 1, 0, 0), (20, .istore_n 1, 1, 0, 0), (21, .iinc 2 1, 3, 0, 0), (24, .goto (-20), 3, 0, 0), (27, .iload_n 1, 1, 0, 0), (28, .ireturn, 1, 0, 0)]
/-- SerialGate$Clients.allRetries()I -/
def mm_M8 : mm_M := (yX0_allRetries, cX0_allRetries, 3, (some .int), 0, false, [], [], mm_k8)
theorem mm_d8 : mm_k8.all (fun q => mm_deq (decode cX0_allRetries q.1) q.2.1 q.2.2.1) = true := by decide +kernel
def mm_k9 : List mm_I := [(0, .aload_n 0, 1, 0, 0), (1, .invokevirtual 41, 3, 0, 7), (4, .istore_n 2, 1, 0, 0), (5, .iload_n 2, 1, 0, 0), (6, .ifCond .ne 7, 3, 0, 0), (9, .iconst 0, 1, 0, 0), (10, .goto 14, 3, 0, 0), (13, .bipush 100, 2, 0, 0), (15, .aload_n 0, 1, 0, 0), (16, .getfield 28, 3, 0, 5), (19, .iload_n 1, 1, 0, 0), (20, .iaload, 1, 0, 0), (21, .imul, 1, 0, 0), (22, .iload_n 2, 1, 0, 0), (23, .idiv, 1, 0, 0), (24, .ireturn, 1, 0, 0)]
/-- SerialGate$Clients.shareOf(I)I -/
def mm_M9 : mm_M := (yX0_shareOf, cX0_shareOf, 3, (some .int), 0, false, [], [], mm_k9)
theorem mm_d9 : mm_k9.all (fun q => mm_deq (decode cX0_shareOf q.1) q.2.1 q.2.2.1) = true := by decide +kernel
def mm_k10 : List mm_I := [(0, .iconst 0, 1, 0, 0), (1, .istore_n 1, 1, 0, 0), (2, .iconst 0, 1, 0, 0), (3, .istore_n 2, 1, 0, 0), (4, .iconst 0, 1, 0, 0), (5, .istore_n 3, 1, 0, 0), (6, .iload_n 3, 1, 0, 0), (7, .bipush 10, 2, 0, 0), (9, .if_icmp .ge 56, 3, 0, 0), (12, .iconst 0, 1, 0, 0), (13, .istore 4, 2, 0, 0), (15, .iconst 0, 1, 0, 0), (16, .istore 5, 2, 0, 0), (18, .iload 5, 2, 0, 0), (20, .aload_n 0, 1, 0, 0), (21, .getfield 9, 3, 0, 0), (24, .if_icmp .ge 24, 3, 0, 0), (27, .iload 4, 2, 0, 0), (29, .aload_n 0, 1, 0, 0), (30, .iload 5, 2, 0, 0), (32, .invokevirtual 37, 3, 0, 4), (35, .iload_n 3, 1, 0, 0), (36, .ishr, 1, 0, 0), (37, .iconst 1, 1, 0, 0), (38, .iand, 1, 0, 0), (39, .iadd, 1, 0, 0), (40, .istore 4, 2, 0, 0), (42, .iinc 5 1, 3, 0, 0), (45, .goto (-27), 3, 0, 0), (48, .iload 4, 2, 0, 0), (50, .iload_n 2, 1, 0, 0), (51, .if_icmp .le 8, 3, 0, 0), (54, .iload_n 3, 1, 0, 0), (55, .istore_n 1, 1, 0, 0), (56, .iload 4, 2, 0, 0), (58, .istore_n 2, 1, 0, 0), (59, .iinc 3 1, 3, 0, 0), (62, .goto (-56), 3, 0, 0), (65, .iload_n 1, 1, 0, 0), (66, .ireturn, 1, 0, 0)]
/-- SerialGate$Clients.hottestKey()I -/
def mm_M10 : mm_M := (yX0_hottestKey, cX0_hottestKey, 6, (some .int), 0, false, [], [], mm_k10)
theorem mm_d10 : mm_k10.all (fun q => mm_deq (decode cX0_hottestKey q.1) q.2.1 q.2.2.1) = true := by decide +kernel
def mm_k11 : List mm_I := [(0, .iconst 0, 1, 0, 0), (1, .istore_n 1, 1, 0, 0), (2, .iconst 0, 1, 0, 0), (3, .istore_n 2, 1, 0, 0), (4, .iload_n 2, 1, 0, 0), (5, .aload_n 0, 1, 0, 0), (6, .getfield 9, 3, 0, 0), (9, .if_icmp .ge 55, 3, 0, 0), (12, .iconst 0, 1, 0, 0), (13, .istore_n 3, 1, 0, 0), (14, .iload_n 3, 1, 0, 0), (15, .iload_n 2, 1, 0, 0), (16, .if_icmp .ge 42, 3, 0, 0), (19, .aload_n 0, 1, 0, 0), (20, .getfield 18, 3, 0, 2), (23, .iload_n 2, 1, 0, 0), (24, .iaload, 1, 0, 0), (25, .aload_n 0, 1, 0, 0), (26, .getfield 18, 3, 0, 2), (29, .iload_n 3, 1, 0, 0), (30, .iaload, 1, 0, 0), (31, .if_icmp .ne 21, 3, 0, 0), (34, .aload_n 0, 1, 0, 0), (35, .getfield 22, 3, 0, 3), (38, .iload_n 2, 1, 0, 0), (39, .iaload, 1, 0, 0), (40, .aload_n 0, 1, 0, 0), (41, .getfield 22, 3, 0, 3), (44, .iload_n 3, 1, 0, 0), (45, .iaload, 1, 0, 0), (46, .if_icmp .ne 6, 3, 0, 0), (49, .iinc 1 1, 3, 0, 0), (52, .iinc 3 1, 3, 0, 0), (55, .goto (-41), 3, 0, 0), (58, .iinc 2 1, 3, 0, 0), (61, .goto (-57), 3, 0, 0), (64, .iload_n 1, 1, 0, 0), (65, .ireturn, 1, 0, 0)]
/-- SerialGate$Clients.twinPairs()I -/
def mm_M11 : mm_M := (yX0_twinPairs, cX0_twinPairs, 4, (some .int), 0, false, [], [], mm_k11)
theorem mm_d11 : mm_k11.all (fun q => mm_deq (decode cX0_twinPairs q.1) q.2.1 q.2.2.1) = true := by decide +kernel
def mm_k12 : List mm_I := [(0, .aload_n 0, 1, 0, 0), (1, .invokespecial 3, 3, 1, 0), (4, .aload_n 0, 1, 0, 0), (5, .iconst 0, 1, 0, 0), (6, .putfield 9, 3, 1, 0), (9, .aload_n 0, 1, 0, 0), (10, .iconst 0, 1, 0, 0), (11, .putfield 15, 3, 1, 1), (14, .aload_n 0, 1, 0, 0), (15, .bipush 12, 2, 0, 0), (17, .newarray .int, 2, 0, 0), (19, .putfield 18, 3, 1, 2), (22, .aload_n 0, 1, 0, 0), (23, .bipush 12, 2, 0, 0), (25, .newarray .int, 2, 0, 0), (27, .putfield 22, 3, 1, 3), (30, .aload_n 0, 1, 0, 0), (31, .bipush 12, 2, 0, 0), (33, .newarray .int, 2, 0, 0), (35, .putfield 25, 3, 1, 4), (38, .aload_n 0, 1, 0, 0), (39, .bipush 12, 2, 0, 0), (41, .newarray .int, 2, 0, 0), (43, .putfield 28, 3, 1, 5), (46, .aload_n 0, 1, 0, 0), (47, .bipush 120, 2, 0, 0), (49, .newarray .int, 2, 0, 0), (51, .putfield 31, 3, 1, 6), (54, .aload_n 0, 1, 0, 0), (55, .bipush 120, 2, 0, 0), (57, .newarray .int, 2, 0, 0), (59, .putfield 34, 3, 1, 7), (62, .aload_n 0, 1, 0, 0), (63, .bipush 12, 2, 0, 0), (65, .newarray .int, 2, 0, 0), (67, .putfield 37, 3, 1, 8), (70, .return_, 1, 0, 0)]
/-- SerialGate$History.<init>()V -/
def mm_M12 : mm_M := (yX1_init, cX1_init, 1, none, 1, true, [], [], mm_k12)
theorem mm_d12 : mm_k12.all (fun q => mm_deq (decode cX1_init q.1) q.2.1 q.2.2.1) = true := by decide +kernel
def mm_k13 : List mm_I := [(0, .aload_n 0, 1, 0, 0), (1, .aload_n 1, 1, 0, 0), (2, .getfield 9, 3, 1, 0), (5, .putfield 9, 3, 1, 0), (8, .aload_n 0, 1, 0, 0), (9, .aload_n 1, 1, 0, 0), (10, .getfield 15, 3, 1, 1), (13, .putfield 15, 3, 1, 1), (16, .aload_n 1, 1, 0, 0), (17, .getfield 18, 3, 1, 2), (20, .iconst 0, 1, 0, 0), (21, .aload_n 0, 1, 0, 0), (22, .getfield 18, 3, 1, 2), (25, .iconst 0, 1, 0, 0), (26, .bipush 12, 2, 0, 0), (28, .invokestatic 40, 3, 1, 0), (31, .aload_n 1, 1, 0, 0), (32, .getfield 22, 3, 1, 3), (35, .iconst 0, 1, 0, 0), (36, .aload_n 0, 1, 0, 0), (37, .getfield 22, 3, 1, 3), (40, .iconst 0, 1, 0, 0), (41, .bipush 12, 2, 0, 0), (43, .invokestatic 40, 3, 1, 0), (46, .aload_n 1, 1, 0, 0), (47, .getfield 25, 3, 1, 4), (50, .iconst 0, 1, 0, 0), (51, .aload_n 0, 1, 0, 0), (52, .getfield 25, 3, 1, 4), (55, .iconst 0, 1, 0, 0), (56, .bipush 12, 2, 0, 0), (58, .invokestatic 40, 3, 1, 0), (61, .aload_n 1, 1, 0, 0), (62, .getfield 28, 3, 1, 5), (65, .iconst 0, 1, 0, 0), (66, .aload_n 0, 1, 0, 0), (67, .getfield 28, 3, 1, 5), (70, .iconst 0, 1, 0, 0), (71, .bipush 12, 2, 0, 0), (73, .invokestatic 40, 3, 1, 0), (76, .aload_n 1, 1, 0, 0), (77, .getfield 31, 3, 1, 6), (80, .iconst 0, 1, 0, 0), (81, .aload_n 0, 1, 0, 0), (82, .getfield 31, 3, 1, 6), (85, .iconst 0, 1, 0, 0), (86, .bipush 120, 2, 0, 0), (88, .invokestatic 40, 3, 1, 0), (91, .aload_n 1, 1, 0, 0), (92, .getfield 34, 3, 1, 7), (95, .iconst 0, 1, 0, 0), (96, .aload_n 0, 1, 0, 0), (97, .getfield 34, 3, 1, 7), (100, .iconst 0, 1, 0, 0), (101, .bipush 120, 2, 0, 0), (103, .invokestatic 40, 3, 1, 0), (106, .return_, 1, 0, 0)]
/-- SerialGate$History.copyFrom(LSerialGate$History;)V -/
def mm_M13 : mm_M := (yX1_copyFrom, cX1_copyFrom, 2, none, 1, false, [], [], mm_k13)
theorem mm_d13 : mm_k13.all (fun q => mm_deq (decode cX1_copyFrom q.1) q.2.1 q.2.2.1) = true := by decide +kernel
def mm_k14 : List mm_I := [(0, .aload_n 0, 1, 0, 0), (1, .getfield 15, 3, 1, 1), (4, .iload_n 1, 1, 0, 0), (5, .iadd, 1, 0, 0), (6, .bipush 12, 2, 0, 0), (8, .irem, 1, 0, 0), (9, .ireturn, 1, 0, 0)]
/-- SerialGate$History.placeOf(I)I -/
def mm_M14 : mm_M := (yX1_placeOf, cX1_placeOf, 2, (some .int), 1, false, [], [], mm_k14)
theorem mm_d14 : mm_k14.all (fun q => mm_deq (decode cX1_placeOf q.1) q.2.1 q.2.2.1) = true := by decide +kernel
def mm_k15 : List mm_I := [(0, .aload_n 0, 1, 0, 0), (1, .aload_n 0, 1, 0, 0), (2, .getfield 9, 3, 1, 0), (5, .invokevirtual 46, 3, 0, 14), (8, .istore 4, 2, 0, 0), (10, .aload_n 0, 1, 0, 0), (11, .getfield 9, 3, 1, 0), (14, .bipush 12, 2, 0, 0), (16, .if_icmp .ge 16, 3, 0, 0), (19, .aload_n 0, 1, 0, 0), (20, .dup, 1, 0, 0), (21, .getfield 9, 3, 1, 0), (24, .iconst 1, 1, 0, 0), (25, .iadd, 1, 0, 0), (26, .putfield 9, 3, 1, 0), (29, .goto 12, 3, 0, 0), (32, .aload_n 0, 1, 0, 0), (33, .aload_n 0, 1, 0, 0), (34, .iconst 1, 1, 0, 0), (35, .invokevirtual 46, 3, 0, 14), (38, .putfield 15, 3, 1, 1), (41, .aload_n 0, 1, 0, 0), (42, .getfield 18, 3, 1, 2), (45, .iload 4, 2, 0, 0), (47, .aload_n 1, 1, 0, 0), (48, .getfield 50, 3, 6, 4), (51, .iload_n 2, 1, 0, 0), (52, .iaload, 1, 0, 0), (53, .iastore, 1, 0, 0), (54, .aload_n 0, 1, 0, 0), (55, .getfield 22, 3, 1, 3), (58, .iload 4, 2, 0, 0), (60, .aload_n 1, 1, 0, 0), (61, .getfield 53, 3, 6, 6), (64, .iload_n 2, 1, 0, 0), (65, .iaload, 1, 0, 0), (66, .iastore, 1, 0, 0), (67, .aload_n 0, 1, 0, 0), (68, .getfield 25, 3, 1, 4), (71, .iload 4, 2, 0, 0), (73, .aload_n 1, 1, 0, 0), (74, .getfield 54, 3, 6, 7), (77, .iload_n 2, 1, 0, 0), (78, .iaload, 1, 0, 0), (79, .iastore, 1, 0, 0), (80, .aload_n 0, 1, 0, 0), (81, .getfield 28, 3, 1, 5), (84, .iload 4, 2, 0, 0), (86, .aload_n 1, 1, 0, 0), (87, .getfield 57, 3, 6, 9), (90, .iload_n 2, 1, 0, 0), (91, .iaload, 1, 0, 0), (92, .iastore, 1, 0, 0), (93, .aload_n 1, 1, 0, 0), (94, .getfield 60, 3, 6, 14), (97, .iload_n 2, 1, 0, 0), (98, .bipush 10, 2, 0, 0), (100, .imul, 1, 0, 0), (101, .aload_n 0, 1, 0, 0), (102, .getfield 31, 3, 1, 6), (105, .iload 4, 2, 0, 0), (107, .bipush 10, 2, 0, 0), (109, .imul, 1, 0, 0), (110, .bipush 10, 2, 0, 0), (112, .invokestatic 40, 3, 1, 0), (115, .aload_n 3, 1, 0, 0), (116, .iconst 0, 1, 0, 0), (117, .aload_n 0, 1, 0, 0), (118, .getfield 34, 3, 1, 7), (121, .iload 4, 2, 0, 0), (123, .bipush 10, 2, 0, 0), (125, .imul, 1, 0, 0), (126, .bipush 10, 2, 0, 0), (128, .invokestatic 40, 3, 1, 0), (131, .return_, 1, 0, 0)]
/-- SerialGate$History.add(LSerialGate$Slots;I[I)V -/
def mm_M15 : mm_M := (yX1_add, cX1_add, 5, none, 1, false, [], [], mm_k15)
theorem mm_d15 : mm_k15.all (fun q => mm_deq (decode cX1_add q.1) q.2.1 q.2.2.1) = true := by decide +kernel
def mm_k16 : List mm_I := [(0, .iload_n 1, 1, 0, 0), (1, .ifCond .lt 11, 3, 0, 0), (4, .iload_n 1, 1, 0, 0), (5, .aload_n 0, 1, 0, 0), (6, .getfield 9, 3, 1, 0), (9, .if_icmp .lt 5, 3, 0, 0), (12, .iconst (-1), 1, 0, 0), (13, .ireturn, 1, 0, 0), (14, .aload_n 0, 1, 0, 0), (15, .invokevirtual 63, 3, 0, 18), (18, .iconst 1, 1, 0, 0), (19, .aload_n 0, 1, 0, 0), (20, .getfield 9, 3, 1, 0), (23, .ishl, 1, 0, 0), (24, .iconst 1, 1, 0, 0), (25, .isub, 1, 0, 0), (26, .istore_n 2, 1, 0, 0), (27, .iconst 0, 1, 0, 0), (28, .istore_n 3, 1, 0, 0), (29, .iload_n 3, 1, 0, 0), (30, .iload_n 1, 1, 0, 0), (31, .if_icmp .gt 39, 3, 0, 0), (34, .aload_n 0, 1, 0, 0), (35, .iload_n 2, 1, 0, 0), (36, .invokevirtual 66, 3, 0, 17), (39, .istore 4, 2, 0, 0), (41, .iload 4, 2, 0, 0), (43, .iconst (-1), 1, 0, 0), (44, .if_icmp .eq 8, 3, 0, 0), (47, .iload_n 3, 1, 0, 0), (48, .iload_n 1, 1, 0, 0), (49, .if_icmp .ne 6, 3, 0, 0), (52, .iload 4, 2, 0, 0), (54, .ireturn, 1, 0, 0), (55, .iload_n 2, 1, 0, 0), (56, .iconst 1, 1, 0, 0), (57, .iload 4, 2, 0, 0), (59, .ishl, 1, 0, 0), (60, .iconst (-1), 1, 0, 0), (61, .ixor, 1, 0, 0), (62, .iand, 1, 0, 0), (63, .istore_n 2, 1, 0, 0), (64, .iinc 3 1, 3, 0, 0), (67, .goto (-38), 3, 0, 0), (70, .iconst (-1), 1, 0, 0), (71, .ireturn, 1, 0, 0)]
/-- SerialGate$History.serialRow(I)I -/
def mm_M16 : mm_M := (yX1_serialRow, cX1_serialRow, 5, (some .int), 1, false, [], [], mm_k16)
theorem mm_d16 : mm_k16.all (fun q => mm_deq (decode cX1_serialRow q.1) q.2.1 q.2.2.1) = true := by decide +kernel
def mm_k17 : List mm_I := [(0, .iconst 0, 1, 0, 0), (1, .istore_n 2, 1, 0, 0), (2, .iload_n 2, 1, 0, 0), (3, .aload_n 0, 1, 0, 0), (4, .getfield 9, 3, 1, 0), (7, .if_icmp .ge 30, 3, 0, 0), (10, .iload_n 1, 1, 0, 0), (11, .iload_n 2, 1, 0, 0), (12, .ishr, 1, 0, 0), (13, .iconst 1, 1, 0, 0), (14, .iand, 1, 0, 0), (15, .ifCond .eq 16, 3, 0, 0), (18, .aload_n 0, 1, 0, 0), (19, .getfield 37, 3, 1, 8), (22, .iload_n 2, 1, 0, 0), (23, .iaload, 1, 0, 0), (24, .iload_n 1, 1, 0, 0), (25, .iand, 1, 0, 0), (26, .ifCond .ne 5, 3, 0, 0), (29, .iload_n 2, 1, 0, 0), (30, .ireturn, 1, 0, 0), (31, .iinc 2 1, 3, 0, 0), (34, .goto (-32), 3, 0, 0), (37, .iconst (-1), 1, 0, 0), (38, .ireturn, 1, 0, 0)]
/-- SerialGate$History.nextRow(I)I -/
def mm_M17 : mm_M := (yX1_nextRow, cX1_nextRow, 3, (some .int), 1, false, [], [], mm_k17)
theorem mm_d17 : mm_k17.all (fun q => mm_deq (decode cX1_nextRow q.1) q.2.1 q.2.2.1) = true := by decide +kernel
def mm_k18 : List mm_I := [(0, .iconst 0, 1, 0, 0), (1, .istore_n 1, 1, 0, 0), (2, .iload_n 1, 1, 0, 0), (3, .aload_n 0, 1, 0, 0), (4, .getfield 9, 3, 1, 0), (7, .if_icmp .ge 66, 3, 0, 0), (10, .aload_n 0, 1, 0, 0), (11, .getfield 37, 3, 1, 8), (14, .iload_n 1, 1, 0, 0), (15, .iconst 0, 1, 0, 0), (16, .iastore, 1, 0, 0), (17, .iconst 0, 1, 0, 0), (18, .istore_n 2, 1, 0, 0), (19, .iload_n 2, 1, 0, 0), (20, .aload_n 0, 1, 0, 0), (21, .getfield 9, 3, 1, 0), (24, .if_icmp .ge 43, 3, 0, 0), (27, .iload_n 2, 1, 0, 0), (28, .iload_n 1, 1, 0, 0), (29, .if_icmp .eq 32, 3, 0, 0), (32, .aload_n 0, 1, 0, 0), (33, .aload_n 0, 1, 0, 0), (34, .iload_n 2, 1, 0, 0), (35, .invokevirtual 46, 3, 0, 14), (38, .aload_n 0, 1, 0, 0), (39, .iload_n 1, 1, 0, 0), (40, .invokevirtual 46, 3, 0, 14), (43, .invokevirtual 69, 3, 0, 19), (46, .ifCond .eq 15, 3, 0, 0), (49, .aload_n 0, 1, 0, 0), (50, .getfield 37, 3, 1, 8), (53, .iload_n 1, 1, 0, 0), (54, .dup2, 1, 0, 0), (55, .iaload, 1, 0, 0), (56, .iconst 1, 1, 0, 0), (57, .iload_n 2, 1, 0, 0), (58, .ishl, 1, 0, 0), (59, .ior, 1, 0, 0), (60, .iastore, 1, 0, 0), (61, .iinc 2 1, 3, 0, 0), (64, .goto (-45), 3, 0, 0), (67, .iinc 1 1, 3, 0, 0), (70, .goto (-68), 3, 0, 0), (73, .return_, 1, 0, 0)]
/-- SerialGate$History.findAhead()V -/
def mm_M18 : mm_M := (yX1_findAhead, cX1_findAhead, 3, none, 1, false, [], [], mm_k18)
theorem mm_d18 : mm_k18.all (fun q => mm_deq (decode cX1_findAhead q.1) q.2.1 q.2.2.1) = true := by decide +kernel
def mm_k19 : List mm_I := [(0, .iconst 0, 1, 0, 0), (1, .istore_n 3, 1, 0, 0), (2, .iload_n 3, 1, 0, 0), (3, .bipush 10, 2, 0, 0), (5, .if_icmp .ge 188, 3, 0, 0), (8, .aload_n 0, 1, 0, 0), (9, .getfield 28, 3, 1, 5), (12, .iload_n 1, 1, 0, 0), (13, .iaload, 1, 0, 0), (14, .iload_n 3, 1, 0, 0), (15, .ishr, 1, 0, 0), (16, .iconst 1, 1, 0, 0), (17, .iand, 1, 0, 0), (18, .ifCond .eq 7, 3, 0, 0), (21, .iconst 1, 1, 0, 0), (22, .goto 4, 3, 0, 0), (25, .iconst 0, 1, 0, 0), (26, .istore 4, 2, 0, 0), (28, .aload_n 0, 1, 0, 0), (29, .getfield 28, 3, 1, 5), (32, .iload_n 2, 1, 0, 0), (33, .iaload, 1, 0, 0), (34, .iload_n 3, 1, 0, 0), (35, .ishr, 1, 0, 0), (36, .iconst 1, 1, 0, 0), (37, .iand, 1, 0, 0), (38, .ifCond .eq 7, 3, 0, 0), (41, .iconst 1, 1, 0, 0), (42, .goto 4, 3, 0, 0), (45, .iconst 0, 1, 0, 0), (46, .istore 5, 2, 0, 0), (48, .aload_n 0, 1, 0, 0), (49, .getfield 25, 3, 1, 4), (52, .iload_n 1, 1, 0, 0), (53, .iaload, 1, 0, 0), (54, .iload_n 3, 1, 0, 0), (55, .ishr, 1, 0, 0), (56, .iconst 1, 1, 0, 0), (57, .iand, 1, 0, 0), (58, .ifCond .eq 7, 3, 0, 0), (61, .iconst 1, 1, 0, 0), (62, .goto 4, 3, 0, 0), (65, .iconst 0, 1, 0, 0), (66, .istore 6, 2, 0, 0), (68, .aload_n 0, 1, 0, 0), (69, .getfield 25, 3, 1, 4), (72, .iload_n 2, 1, 0, 0), (73, .iaload, 1, 0, 0), (74, .iload_n 3, 1, 0, 0), (75, .ishr, 1, 0, 0), (76, .iconst 1, 1, 0, 0), (77, .iand, 1, 0, 0), (78, .ifCond .eq 7, 3, 0, 0), (81, .iconst 1, 1, 0, 0), (82, .goto 4, 3, 0, 0), (85, .iconst 0, 1, 0, 0), (86, .istore 7, 2, 0, 0), (88, .iload_n 1, 1, 0, 0), (89, .bipush 10, 2, 0, 0), (91, .imul, 1, 0, 0), (92, .iload_n 3, 1, 0, 0), (93, .iadd, 1, 0, 0), (94, .istore 8, 2, 0, 0), (96, .iload_n 2, 1, 0, 0), (97, .bipush 10, 2, 0, 0), (99, .imul, 1, 0, 0), (100, .iload_n 3, 1, 0, 0), (101, .iadd, 1, 0, 0), (102, .istore 9, 2, 0, 0), (104, .iload 4, 2, 0, 0), (106, .ifCond .eq 25, 3, 0, 0), (109, .iload 7, 2, 0, 0), (111, .ifCond .eq 20, 3, 0, 0), (114, .aload_n 0, 1, 0, 0), (115, .getfield 34, 3, 1, 7), (118, .iload 8, 2, 0, 0), (120, .iaload, 1, 0, 0), (121, .aload_n 0, 1, 0, 0), (122, .getfield 31, 3, 1, 6), (125, .iload 9, 2, 0, 0), (127, .iaload, 1, 0, 0), (128, .if_icmp .le 57, 3, 0, 0), (131, .iload 6, 2, 0, 0), (133, .ifCond .eq 25, 3, 0, 0), (136, .iload 5, 2, 0, 0), (138, .ifCond .eq 20, 3, 0, 0), (141, .aload_n 0, 1, 0, 0), (142, .getfield 31, 3, 1, 6), (145, .iload 8, 2, 0, 0), (147, .iaload, 1, 0, 0), (148, .aload_n 0, 1, 0, 0), (149, .getfield 34, 3, 1, 7), (152, .iload 9, 2, 0, 0), (154, .iaload, 1, 0, 0), (155, .if_icmp .lt 30, 3, 0, 0), (158, .iload 4, 2, 0, 0), (160, .ifCond .eq 27, 3, 0, 0), (163, .iload 5, 2, 0, 0), (165, .ifCond .eq 22, 3, 0, 0), (168, .aload_n 0, 1, 0, 0), (169, .getfield 34, 3, 1, 7), (172, .iload 8, 2, 0, 0), (174, .iaload, 1, 0, 0), (175, .aload_n 0, 1, 0, 0), (176, .getfield 34, 3, 1, 7), (179, .iload 9, 2, 0, 0), (181, .iaload, 1, 0, 0), (182, .if_icmp .ge 5, 3, 0, 0), (185, .iconst 1, 1, 0, 0), (186, .ireturn, 1, 0, 0), (187, .iinc 3 1, 3, 0, 0), (190, .goto (-188), 3, 0, 0), (193, .iconst 0, 1, 0, 0), (194, .ireturn, 1, 0, 0)]
/-- SerialGate$History.mustBeAhead(II)Z -/
def mm_M19 : mm_M := (yX1_mustBeAhead, cX1_mustBeAhead, 10, (some .boolean), 1, false, [], [], mm_k19)
theorem mm_d19 : mm_k19.all (fun q => mm_deq (decode cX1_mustBeAhead q.1) q.2.1 q.2.2.1) = true := by decide +kernel
def mm_k20 : List mm_I := [(0, .aload_n 0, 1, 0, 0), (1, .invokespecial 3, 3, 1, 0), (4, .aload_n 0, 1, 0, 0), (5, .iconst (-1), 1, 0, 0), (6, .putfield 9, 3, 2, 0), (9, .aload_n 0, 1, 0, 0), (10, .iconst 0, 1, 0, 0), (11, .putfield 15, 3, 2, 1), (14, .aload_n 0, 1, 0, 0), (15, .bipush 12, 2, 0, 0), (17, .newarray .int, 2, 0, 0), (19, .putfield 18, 3, 2, 2), (22, .aload_n 0, 1, 0, 0), (23, .bipush 12, 2, 0, 0), (25, .newarray .int, 2, 0, 0), (27, .putfield 22, 3, 2, 3), (30, .aload_n 0, 1, 0, 0), (31, .bipush 12, 2, 0, 0), (33, .newarray .int, 2, 0, 0), (35, .putfield 25, 3, 2, 4), (38, .aload_n 0, 1, 0, 0), (39, .sipush 400, 3, 0, 0), (42, .newarray .int, 2, 0, 0), (44, .putfield 30, 3, 2, 5), (47, .aload_n 0, 1, 0, 0), (48, .bipush 10, 2, 0, 0), (50, .newarray .int, 2, 0, 0), (52, .putfield 33, 3, 2, 6), (55, .aload_n 0, 1, 0, 0), (56, .bipush 40, 2, 0, 0), (58, .newarray .int, 2, 0, 0), (60, .putfield 36, 3, 2, 7), (63, .return_, 1, 0, 0)]
/-- SerialGate$Law.<init>()V -/
def mm_M20 : mm_M := (yX2_init, cX2_init, 1, none, 2, true, [], [], mm_k20)
theorem mm_d20 : mm_k20.all (fun q => mm_deq (decode cX2_init q.1) q.2.1 q.2.2.1) = true := by decide +kernel
def mm_k21 : List mm_I := [(0, .aload_n 0, 1, 0, 0), (1, .aload_n 1, 1, 0, 0), (2, .getfield 9, 3, 2, 0), (5, .putfield 9, 3, 2, 0), (8, .aload_n 0, 1, 0, 0), (9, .aload_n 1, 1, 0, 0), (10, .getfield 15, 3, 2, 1), (13, .putfield 15, 3, 2, 1), (16, .aload_n 1, 1, 0, 0), (17, .getfield 18, 3, 2, 2), (20, .iconst 0, 1, 0, 0), (21, .aload_n 0, 1, 0, 0), (22, .getfield 18, 3, 2, 2), (25, .iconst 0, 1, 0, 0), (26, .bipush 12, 2, 0, 0), (28, .invokestatic 39, 3, 1, 0), (31, .aload_n 1, 1, 0, 0), (32, .getfield 22, 3, 2, 3), (35, .iconst 0, 1, 0, 0), (36, .aload_n 0, 1, 0, 0), (37, .getfield 22, 3, 2, 3), (40, .iconst 0, 1, 0, 0), (41, .bipush 12, 2, 0, 0), (43, .invokestatic 39, 3, 1, 0), (46, .aload_n 1, 1, 0, 0), (47, .getfield 25, 3, 2, 4), (50, .iconst 0, 1, 0, 0), (51, .aload_n 0, 1, 0, 0), (52, .getfield 25, 3, 2, 4), (55, .iconst 0, 1, 0, 0), (56, .bipush 12, 2, 0, 0), (58, .invokestatic 39, 3, 1, 0), (61, .aload_n 1, 1, 0, 0), (62, .getfield 30, 3, 2, 5), (65, .iconst 0, 1, 0, 0), (66, .aload_n 0, 1, 0, 0), (67, .getfield 30, 3, 2, 5), (70, .iconst 0, 1, 0, 0), (71, .sipush 400, 3, 0, 0), (74, .invokestatic 39, 3, 1, 0), (77, .return_, 1, 0, 0)]
/-- SerialGate$Law.copyFrom(LSerialGate$Law;)V -/
def mm_M21 : mm_M := (yX2_copyFrom, cX2_copyFrom, 2, none, 2, false, [], [], mm_k21)
theorem mm_d21 : mm_k21.all (fun q => mm_deq (decode cX2_copyFrom q.1) q.2.1 q.2.2.1) = true := by decide +kernel
def mm_k22 : List mm_I := [(0, .aload_n 0, 1, 0, 0), (1, .iconst 0, 1, 0, 0), (2, .putfield 9, 3, 2, 0), (5, .aload_n 0, 1, 0, 0), (6, .iconst 0, 1, 0, 0), (7, .putfield 15, 3, 2, 1), (10, .return_, 1, 0, 0)]
/-- SerialGate$Law.clear()V -/
def mm_M22 : mm_M := (yX2_clear, cX2_clear, 1, none, 2, false, [], [], mm_k22)
theorem mm_d22 : mm_k22.all (fun q => mm_deq (decode cX2_clear q.1) q.2.1 q.2.2.1) = true := by decide +kernel
def mm_k23 : List mm_I := [(0, .aload_n 0, 1, 0, 0), (1, .getfield 15, 3, 2, 1), (4, .sipush 400, 3, 0, 0), (7, .if_icmp .ge 23, 3, 0, 0), (10, .aload_n 0, 1, 0, 0), (11, .getfield 30, 3, 2, 5), (14, .aload_n 0, 1, 0, 0), (15, .getfield 15, 3, 2, 1), (18, .iload_n 1, 1, 0, 0), (19, .iastore, 1, 0, 0), (20, .aload_n 0, 1, 0, 0), (21, .dup, 1, 0, 0), (22, .getfield 15, 3, 2, 1), (25, .iconst 1, 1, 0, 0), (26, .iadd, 1, 0, 0), (27, .putfield 15, 3, 2, 1), (30, .return_, 1, 0, 0)]
/-- SerialGate$Law.add(I)V -/
def mm_M23 : mm_M := (yX2_add, cX2_add, 2, none, 2, false, [], [], mm_k23)
theorem mm_d23 : mm_k23.all (fun q => mm_deq (decode cX2_add q.1) q.2.1 q.2.2.1) = true := by decide +kernel
def mm_k24 : List mm_I := [(0, .aload_n 0, 1, 0, 0), (1, .getfield 9, 3, 2, 0), (4, .ifCond .lt 55, 3, 0, 0), (7, .aload_n 0, 1, 0, 0), (8, .getfield 9, 3, 2, 0), (11, .bipush 12, 2, 0, 0), (13, .if_icmp .ge 46, 3, 0, 0), (16, .aload_n 0, 1, 0, 0), (17, .getfield 18, 3, 2, 2), (20, .aload_n 0, 1, 0, 0), (21, .getfield 9, 3, 2, 0), (24, .iload_n 1, 1, 0, 0), (25, .iastore, 1, 0, 0), (26, .aload_n 0, 1, 0, 0), (27, .getfield 22, 3, 2, 3), (30, .aload_n 0, 1, 0, 0), (31, .getfield 9, 3, 2, 0), (34, .iload_n 2, 1, 0, 0), (35, .iastore, 1, 0, 0), (36, .aload_n 0, 1, 0, 0), (37, .getfield 25, 3, 2, 4), (40, .aload_n 0, 1, 0, 0), (41, .getfield 9, 3, 2, 0), (44, .aload_n 0, 1, 0, 0), (45, .getfield 15, 3, 2, 1), (48, .iastore, 1, 0, 0), (49, .aload_n 0, 1, 0, 0), (50, .dup, 1, 0, 0), (51, .getfield 9, 3, 2, 0), (54, .iconst 1, 1, 0, 0), (55, .iadd, 1, 0, 0), (56, .putfield 9, 3, 2, 0), (59, .return_, 1, 0, 0)]
/-- SerialGate$Law.endLine(II)V -/
def mm_M24 : mm_M := (yX2_endLine, cX2_endLine, 3, none, 2, false, [], [], mm_k24)
theorem mm_d24 : mm_k24.all (fun q => mm_deq (decode cX2_endLine q.1) q.2.1 q.2.2.1) = true := by decide +kernel
def mm_k25 : List mm_I := [(0, .iconst 0, 1, 0, 0), (1, .istore_n 2, 1, 0, 0), (2, .iconst 0, 1, 0, 0), (3, .istore_n 3, 1, 0, 0), (4, .iload_n 3, 1, 0, 0), (5, .aload_n 0, 1, 0, 0), (6, .getfield 9, 3, 2, 0), (9, .if_icmp .ge 36, 3, 0, 0), (12, .aload_n 0, 1, 0, 0), (13, .getfield 18, 3, 2, 2), (16, .iload_n 3, 1, 0, 0), (17, .iaload, 1, 0, 0), (18, .iload_n 1, 1, 0, 0), (19, .if_icmp .ne 20, 3, 0, 0), (22, .aload_n 0, 1, 0, 0), (23, .iload_n 3, 1, 0, 0), (24, .invokevirtual 45, 3, 0, 26), (27, .ifCond .eq 12, 3, 0, 0), (30, .iload_n 2, 1, 0, 0), (31, .aload_n 0, 1, 0, 0), (32, .getfield 22, 3, 2, 3), (35, .iload_n 3, 1, 0, 0), (36, .iaload, 1, 0, 0), (37, .iadd, 1, 0, 0), (38, .istore_n 2, 1, 0, 0), (39, .iinc 3 1, 3, 0, 0), (42, .goto (-38), 3, 0, 0), (45, .iload_n 2, 1, 0, 0), (46, .ireturn, 1, 0, 0)]
/-- SerialGate$Law.sumOf(I)I -/
def mm_M25 : mm_M := (yX2_sumOf, cX2_sumOf, 4, (some .int), 2, false, [], [], mm_k25)
theorem mm_d25 : mm_k25.all (fun q => mm_deq (decode cX2_sumOf q.1) q.2.1 q.2.2.1) = true := by decide +kernel
def mm_k26 : List mm_I := [(0, .iconst 0, 1, 0, 0), (1, .istore_n 2, 1, 0, 0), (2, .iload_n 1, 1, 0, 0), (3, .ifCond .ne 7, 3, 0, 0), (6, .iconst 0, 1, 0, 0), (7, .goto 11, 3, 0, 0), (10, .aload_n 0, 1, 0, 0), (11, .getfield 25, 3, 2, 4), (14, .iload_n 1, 1, 0, 0), (15, .iconst 1, 1, 0, 0), (16, .isub, 1, 0, 0), (17, .iaload, 1, 0, 0), (18, .istore_n 3, 1, 0, 0), (19, .iload_n 3, 1, 0, 0), (20, .aload_n 0, 1, 0, 0), (21, .getfield 25, 3, 2, 4), (24, .iload_n 1, 1, 0, 0), (25, .iaload, 1, 0, 0), (26, .if_icmp .ge 259, 3, 0, 0), (29, .aload_n 0, 1, 0, 0), (30, .getfield 30, 3, 2, 5), (33, .iload_n 3, 1, 0, 0), (34, .iaload, 1, 0, 0), (35, .istore 4, 2, 0, 0), (37, .iload 4, 2, 0, 0), (39, .sipush 1010, 3, 0, 0), (42, .if_icmp .ge 45, 3, 0, 0), (45, .iload_n 2, 1, 0, 0), (46, .bipush 40, 2, 0, 0), (48, .if_icmp .ge 39, 3, 0, 0), (51, .aload_n 0, 1, 0, 0), (52, .getfield 36, 3, 2, 7), (55, .iload_n 2, 1, 0, 0), (56, .iload 4, 2, 0, 0), (58, .sipush 1000, 3, 0, 0), (61, .if_icmp .ge 8, 3, 0, 0), (64, .iload 4, 2, 0, 0), (66, .goto 14, 3, 0, 0), (69, .aload_n 0, 1, 0, 0), (70, .getfield 33, 3, 2, 6), (73, .iload 4, 2, 0, 0), (75, .sipush 1000, 3, 0, 0), (78, .isub, 1, 0, 0), (79, .iaload, 1, 0, 0), (80, .iastore, 1, 0, 0), (81, .iinc 2 1, 3, 0, 0), (84, .goto 195, 3, 0, 0), (87, .iload 4, 2, 0, 0), (89, .sipush 2000, 3, 0, 0), (92, .if_icmp .ne 29, 3, 0, 0), (95, .iload_n 2, 1, 0, 0), (96, .iconst 1, 1, 0, 0), (97, .if_icmp .lt 24, 3, 0, 0), (100, .aload_n 0, 1, 0, 0), (101, .getfield 36, 3, 2, 7), (104, .iload_n 2, 1, 0, 0), (105, .iconst 1, 1, 0, 0), (106, .isub, 1, 0, 0), (107, .iconst 1, 1, 0, 0), (108, .aload_n 0, 1, 0, 0), (109, .getfield 36, 3, 2, 7), (112, .iload_n 2, 1, 0, 0), (113, .iconst 1, 1, 0, 0), (114, .isub, 1, 0, 0), (115, .iaload, 1, 0, 0), (116, .isub, 1, 0, 0), (117, .iastore, 1, 0, 0), (118, .goto 161, 3, 0, 0), (121, .iload 4, 2, 0, 0), (123, .sipush 2000, 3, 0, 0), (126, .if_icmp .le 153, 3, 0, 0), (129, .iload_n 2, 1, 0, 0), (130, .iconst 2, 1, 0, 0), (131, .if_icmp .lt 148, 3, 0, 0), (134, .iinc 2 (-1), 3, 0, 0), (137, .aload_n 0, 1, 0, 0), (138, .getfield 36, 3, 2, 7), (141, .iload_n 2, 1, 0, 0), (142, .iconst 1, 1, 0, 0), (143, .isub, 1, 0, 0), (144, .iaload, 1, 0, 0), (145, .istore 5, 2, 0, 0), (147, .aload_n 0, 1, 0, 0), (148, .getfield 36, 3, 2, 7), (151, .iload_n 2, 1, 0, 0), (152, .iaload, 1, 0, 0), (153, .istore 6, 2, 0, 0), (155, .iload 4, 2, 0, 0), (157, .tableswitch 102 2001 2004 #[31, 47, 63, 79], 31, 0, 0), (188, .aload_n 0, 1, 0, 0), (189, .getfield 36, 3, 2, 7), (192, .iload_n 2, 1, 0, 0), (193, .iconst 1, 1, 0, 0), (194, .isub, 1, 0, 0), (195, .iload 5, 2, 0, 0), (197, .iload 6, 2, 0, 0), (199, .iand, 1, 0, 0), (200, .iastore, 1, 0, 0), (201, .goto 78, 3, 0, 0), (204, .aload_n 0, 1, 0, 0), (205, .getfield 36, 3, 2, 7), (208, .iload_n 2, 1, 0, 0), (209, .iconst 1, 1, 0, 0), (210, .isub, 1, 0, 0), (211, .iload 5, 2, 0, 0), (213, .iload 6, 2, 0, 0), (215, .ior, 1, 0, 0), (216, .iastore, 1, 0, 0), (217, .goto 62, 3, 0, 0), (220, .aload_n 0, 1, 0, 0), (221, .getfield 36, 3, 2, 7), (224, .iload_n 2, 1, 0, 0), (225, .iconst 1, 1, 0, 0), (226, .isub, 1, 0, 0), (227, .iload 5, 2, 0, 0), (229, .iload 6, 2, 0, 0), (231, .iadd, 1, 0, 0), (232, .iastore, 1, 0, 0), (233, .goto 46, 3, 0, 0), (236, .aload_n 0, 1, 0, 0), (237, .getfield 36, 3, 2, 7), (240, .iload_n 2, 1, 0, 0), (241, .iconst 1, 1, 0, 0), (242, .isub, 1, 0, 0), (243, .iload 5, 2, 0, 0), (245, .iload 6, 2, 0, 0), (247, .if_icmp .ge 7, 3, 0, 0), (250, .iconst 1, 1, 0, 0), (251, .goto 4, 3, 0, 0), (254, .iconst 0, 1, 0, 0), (255, .iastore, 1, 0, 0), (256, .goto 23, 3, 0, 0), (259, .aload_n 0, 1, 0, 0), (260, .getfield 36, 3, 2, 7), (263, .iload_n 2, 1, 0, 0), (264, .iconst 1, 1, 0, 0), (265, .isub, 1, 0, 0), (266, .iload 5, 2, 0, 0), (268, .iload 6, 2, 0, 0), (270, .if_icmp .le 7, 3, 0, 0), (273, .iconst 1, 1, 0, 0), (274, .goto 4, 3, 0, 0), (277, .iconst 0, 1, 0, 0), (278, .iastore, 1, 0, 0), (279, .iinc 3 1, 3, 0, 0), (282, .goto (-263), 3, 0, 0), (285, .iload_n 2, 1, 0, 0), (286, .ifCond .eq 12, 3, 0, 0), (289, .aload_n 0, 1, 0, 0), (290, .getfield 36, 3, 2, 7), (293, .iconst 0, 1, 0, 0), (294, .iaload, 1, 0, 0), (295, .ifCond .eq 7, 3, 0, 0), (298, .iconst 1, 1, 0, 0), (299, .goto 4, 3, 0, 0), (302, .iconst 0, 1, 0, 0), (303, .ireturn, 1, 0, 0)]
/-- SerialGate$Law.holds(I)Z -/
def mm_M26 : mm_M := (yX2_holds, cX2_holds, 7, (some .boolean), 2, false, [], [], mm_k26)
theorem mm_d26 : mm_k26.all (fun q => mm_deq (decode cX2_holds q.1) q.2.1 q.2.2.1) = true := by decide +kernel
def mm_k27 : List mm_I := [(0, .aload_n 0, 1, 0, 0), (1, .invokespecial 3, 3, 1, 0), (4, .aload_n 0, 1, 0, 0), (5, .new 9, 3, 0, 2), (8, .dup, 1, 0, 0), (9, .invokespecial 11, 3, 0, 20), (12, .putfield 12, 3, 3, 0), (15, .aload_n 0, 1, 0, 0), (16, .bipush 24, 2, 0, 0), (18, .newarray .int, 2, 0, 0), (20, .putfield 18, 3, 3, 2), (23, .aload_n 0, 1, 0, 0), (24, .iconst 0, 1, 0, 0), (25, .putfield 22, 3, 3, 3), (28, .aload_n 0, 1, 0, 0), (29, .iconst 0, 1, 0, 0), (30, .putfield 26, 3, 3, 4), (33, .aload_n 0, 1, 0, 0), (34, .aload_n 1, 1, 0, 0), (35, .putfield 29, 3, 3, 1), (38, .return_, 1, 0, 0)]
/-- SerialGate$LawReader.<init>(LSerialGate$Tape;)V -/
def mm_M27 : mm_M := (yX3_init, cX3_init, 2, none, 3, true, [], [], mm_k27)
theorem mm_d27 : mm_k27.all (fun q => mm_deq (decode cX3_init q.1) q.2.1 q.2.2.1) = true := by decide +kernel
def mm_k28 : List mm_I := [(0, .aload_n 0, 1, 0, 0), (1, .getfield 12, 3, 3, 0), (4, .invokevirtual 33, 3, 0, 22), (7, .aload_n 0, 1, 0, 0), (8, .getfield 29, 3, 3, 1), (11, .invokevirtual 36, 3, 0, 100), (14, .aload_n 0, 1, 0, 0), (15, .getfield 29, 3, 3, 1), (18, .invokevirtual 41, 3, 0, 101), (21, .ifCond .eq 5, 3, 0, 0), (24, .iconst 1, 1, 0, 0), (25, .ireturn, 1, 0, 0), (26, .iconst 0, 1, 0, 0), (27, .istore_n 1, 1, 0, 0), (28, .iload_n 1, 1, 0, 0), (29, .bipush 12, 2, 0, 0), (31, .if_icmp .ge 94, 3, 0, 0), (34, .aload_n 0, 1, 0, 0), (35, .invokevirtual 45, 3, 0, 29), (38, .istore_n 2, 1, 0, 0), (39, .iload_n 2, 1, 0, 0), (40, .iconst (-1), 1, 0, 0), (41, .if_icmp .ne 7, 3, 0, 0), (44, .iconst (-1), 1, 0, 0), (45, .goto 12, 3, 0, 0), (48, .aload_n 0, 1, 0, 0), (49, .getfield 29, 3, 3, 1), (52, .bipush 40, 2, 0, 0), (54, .invokevirtual 49, 3, 0, 108), (57, .istore_n 3, 1, 0, 0), (58, .iload_n 3, 1, 0, 0), (59, .iconst (-1), 1, 0, 0), (60, .if_icmp .eq 22, 3, 0, 0), (63, .aload_n 0, 1, 0, 0), (64, .getfield 29, 3, 3, 1), (67, .ldc 53, 2, 0, 13), (69, .invokevirtual 55, 3, 0, 105), (72, .ifCond .eq 12, 3, 0, 0), (75, .aload_n 0, 1, 0, 0), (76, .invokevirtual 59, 3, 0, 30), (79, .ifCond .ne 5, 3, 0, 0), (82, .iconst 0, 1, 0, 0), (83, .ireturn, 1, 0, 0), (84, .aload_n 0, 1, 0, 0), (85, .getfield 12, 3, 3, 0), (88, .iload_n 2, 1, 0, 0), (89, .iload_n 3, 1, 0, 0), (90, .invokevirtual 62, 3, 0, 24), (93, .aload_n 0, 1, 0, 0), (94, .getfield 29, 3, 3, 1), (97, .invokevirtual 41, 3, 0, 101), (100, .ifCond .eq 5, 3, 0, 0), (103, .iconst 1, 1, 0, 0), (104, .ireturn, 1, 0, 0), (105, .aload_n 0, 1, 0, 0), (106, .getfield 29, 3, 3, 1), (109, .bipush 59, 2, 0, 0), (111, .invokevirtual 66, 3, 0, 104), (114, .ifCond .ne 5, 3, 0, 0), (117, .iconst 0, 1, 0, 0), (118, .ireturn, 1, 0, 0), (119, .iinc 1 1, 3, 0, 0), (122, .goto (-94), 3, 0, 0), (125, .iconst 0, 1, 0, 0), (126, .ireturn, 1, 0, 0)]
/-- SerialGate$LawReader.readsText()Z -/
def mm_M28 : mm_M := (yX3_readsText, cX3_readsText, 4, (some .boolean), 3, false, [], [], mm_k28)
theorem mm_d28 : mm_k28.all (fun q => mm_deq (decode cX3_readsText q.1) q.2.1 q.2.2.1) = true := by decide +kernel
def mm_k29 : List mm_I := [(0, .aload_n 0, 1, 0, 0), (1, .getfield 29, 3, 3, 1), (4, .ldc 70, 2, 0, 10), (6, .invokevirtual 55, 3, 0, 105), (9, .ifCond .eq 5, 3, 0, 0), (12, .iconst 0, 1, 0, 0), (13, .ireturn, 1, 0, 0), (14, .aload_n 0, 1, 0, 0), (15, .getfield 29, 3, 3, 1), (18, .ldc 72, 2, 0, 11), (20, .invokevirtual 55, 3, 0, 105), (23, .ifCond .eq 5, 3, 0, 0), (26, .iconst 1, 1, 0, 0), (27, .ireturn, 1, 0, 0), (28, .aload_n 0, 1, 0, 0), (29, .getfield 29, 3, 3, 1), (32, .ldc 74, 2, 0, 12), (34, .invokevirtual 55, 3, 0, 105), (37, .ifCond .eq 7, 3, 0, 0), (40, .iconst 2, 1, 0, 0), (41, .goto 4, 3, 0, 0), (44, .iconst (-1), 1, 0, 0), (45, .ireturn, 1, 0, 0)]
/-- SerialGate$LawReader.takenKind()I -/
def mm_M29 : mm_M := (yX3_takenKind, cX3_takenKind, 1, (some .int), 3, false, [], [], mm_k29)
theorem mm_d29 : mm_k29.all (fun q => mm_deq (decode cX3_takenKind q.1) q.2.1 q.2.2.1) = true := by decide +kernel
def mm_k30 : List mm_I := [(0, .aload_n 0, 1, 0, 0), (1, .iconst 0, 1, 0, 0), (2, .putfield 22, 3, 3, 3), (5, .aload_n 0, 1, 0, 0), (6, .iconst 0, 1, 0, 0), (7, .putfield 26, 3, 3, 4), (10, .iconst 1, 1, 0, 0), (11, .istore_n 1, 1, 0, 0), (12, .iconst 0, 1, 0, 0), (13, .istore_n 2, 1, 0, 0), (14, .iload_n 2, 1, 0, 0), (15, .sipush 400, 3, 0, 0), (18, .if_icmp .gt 210, 3, 0, 0), (21, .iload_n 1, 1, 0, 0), (22, .ifCond .eq 34, 3, 0, 0), (25, .aload_n 0, 1, 0, 0), (26, .getfield 26, 3, 3, 4), (29, .bipush 6, 2, 0, 0), (31, .if_icmp .ge 25, 3, 0, 0), (34, .aload_n 0, 1, 0, 0), (35, .getfield 29, 3, 3, 1), (38, .ldc 76, 2, 0, 14), (40, .invokevirtual 55, 3, 0, 105), (43, .ifCond .eq 13, 3, 0, 0), (46, .aload_n 0, 1, 0, 0), (47, .sipush 2000, 3, 0, 0), (50, .invokevirtual 78, 3, 0, 31), (53, .goto 169, 3, 0, 0), (56, .iload_n 1, 1, 0, 0), (57, .ifCond .eq 34, 3, 0, 0), (60, .aload_n 0, 1, 0, 0), (61, .getfield 26, 3, 3, 4), (64, .bipush 6, 2, 0, 0), (66, .if_icmp .ge 25, 3, 0, 0), (69, .aload_n 0, 1, 0, 0), (70, .getfield 29, 3, 3, 1), (73, .bipush 40, 2, 0, 0), (75, .invokevirtual 66, 3, 0, 104), (78, .ifCond .eq 13, 3, 0, 0), (81, .aload_n 0, 1, 0, 0), (82, .sipush 3000, 3, 0, 0), (85, .invokevirtual 78, 3, 0, 31), (88, .goto 134, 3, 0, 0), (91, .iload_n 1, 1, 0, 0), (92, .ifCond .eq 21, 3, 0, 0), (95, .aload_n 0, 1, 0, 0), (96, .invokevirtual 82, 3, 0, 37), (99, .ifCond .ne 5, 3, 0, 0), (102, .iconst 0, 1, 0, 0), (103, .ireturn, 1, 0, 0), (104, .aload_n 0, 1, 0, 0), (105, .invokevirtual 85, 3, 0, 35), (108, .iconst 0, 1, 0, 0), (109, .istore_n 1, 1, 0, 0), (110, .goto 112, 3, 0, 0), (113, .aload_n 0, 1, 0, 0), (114, .getfield 29, 3, 3, 1), (117, .ldc 88, 2, 0, 21), (119, .invokevirtual 55, 3, 0, 105), (122, .ifCond .eq 18, 3, 0, 0), (125, .aload_n 0, 1, 0, 0), (126, .sipush 2001, 3, 0, 0), (129, .sipush 2001, 3, 0, 0), (132, .invokevirtual 90, 3, 0, 34), (135, .iconst 1, 1, 0, 0), (136, .istore_n 1, 1, 0, 0), (137, .goto 85, 3, 0, 0), (140, .aload_n 0, 1, 0, 0), (141, .getfield 29, 3, 3, 1), (144, .ldc 93, 2, 0, 22), (146, .invokevirtual 55, 3, 0, 105), (149, .ifCond .eq 18, 3, 0, 0), (152, .aload_n 0, 1, 0, 0), (153, .sipush 2002, 3, 0, 0), (156, .sipush 2002, 3, 0, 0), (159, .invokevirtual 90, 3, 0, 34), (162, .iconst 1, 1, 0, 0), (163, .istore_n 1, 1, 0, 0), (164, .goto 58, 3, 0, 0), (167, .aload_n 0, 1, 0, 0), (168, .getfield 26, 3, 3, 4), (171, .ifCond .le 30, 3, 0, 0), (174, .aload_n 0, 1, 0, 0), (175, .getfield 29, 3, 3, 1), (178, .bipush 41, 2, 0, 0), (180, .invokevirtual 66, 3, 0, 104), (183, .ifCond .eq 18, 3, 0, 0), (186, .aload_n 0, 1, 0, 0), (187, .sipush 2002, 3, 0, 0), (190, .iconst (-1), 1, 0, 0), (191, .invokevirtual 90, 3, 0, 34), (194, .aload_n 0, 1, 0, 0), (195, .invokevirtual 95, 3, 0, 36), (198, .goto 24, 3, 0, 0), (201, .aload_n 0, 1, 0, 0), (202, .sipush 2002, 3, 0, 0), (205, .iconst (-1), 1, 0, 0), (206, .invokevirtual 90, 3, 0, 34), (209, .aload_n 0, 1, 0, 0), (210, .getfield 26, 3, 3, 4), (213, .ifCond .ne 7, 3, 0, 0), (216, .iconst 1, 1, 0, 0), (217, .goto 4, 3, 0, 0), (220, .iconst 0, 1, 0, 0), (221, .ireturn, 1, 0, 0), (222, .iinc 2 1, 3, 0, 0), (225, .goto (-211), 3, 0, 0), (228, .iconst 0, 1, 0, 0), (229, .ireturn, 1, 0, 0)]
/-- SerialGate$LawReader.readsCondition()Z -/
def mm_M30 : mm_M := (yX3_readsCondition, cX3_readsCondition, 3, (some .boolean), 3, false, [], [], mm_k30)
theorem mm_d30 : mm_k30.all (fun q => mm_deq (decode cX3_readsCondition q.1) q.2.1 q.2.2.1) = true := by decide +kernel
def mm_k31 : List mm_I := [(0, .aload_n 0, 1, 0, 0), (1, .dup, 1, 0, 0), (2, .getfield 26, 3, 3, 4), (5, .iconst 1, 1, 0, 0), (6, .iadd, 1, 0, 0), (7, .putfield 26, 3, 3, 4), (10, .aload_n 0, 1, 0, 0), (11, .iload_n 1, 1, 0, 0), (12, .invokevirtual 98, 3, 0, 32), (15, .return_, 1, 0, 0)]
/-- SerialGate$LawReader.goDeeper(I)V -/
def mm_M31 : mm_M := (yX3_goDeeper, cX3_goDeeper, 2, none, 3, false, [], [], mm_k31)
theorem mm_d31 : mm_k31.all (fun q => mm_deq (decode cX3_goDeeper q.1) q.2.1 q.2.2.1) = true := by decide +kernel
def mm_k32 : List mm_I := [(0, .aload_n 0, 1, 0, 0), (1, .getfield 22, 3, 3, 3), (4, .bipush 24, 2, 0, 0), (6, .if_icmp .ge 23, 3, 0, 0), (9, .aload_n 0, 1, 0, 0), (10, .getfield 18, 3, 3, 2), (13, .aload_n 0, 1, 0, 0), (14, .getfield 22, 3, 3, 3), (17, .iload_n 1, 1, 0, 0), (18, .iastore, 1, 0, 0), (19, .aload_n 0, 1, 0, 0), (20, .dup, 1, 0, 0), (21, .getfield 22, 3, 3, 3), (24, .iconst 1, 1, 0, 0), (25, .iadd, 1, 0, 0), (26, .putfield 22, 3, 3, 3), (29, .return_, 1, 0, 0)]
/-- SerialGate$LawReader.push(I)V -/
def mm_M32 : mm_M := (yX3_push, cX3_push, 2, none, 3, false, [], [], mm_k32)
theorem mm_d32 : mm_k32.all (fun q => mm_deq (decode cX3_push q.1) q.2.1 q.2.2.1) = true := by decide +kernel
def mm_k33 : List mm_I := [(0, .aload_n 0, 1, 0, 0), (1, .getfield 22, 3, 3, 3), (4, .ifCond .le 37, 3, 0, 0), (7, .aload_n 0, 1, 0, 0), (8, .getfield 18, 3, 3, 2), (11, .aload_n 0, 1, 0, 0), (12, .getfield 22, 3, 3, 3), (15, .iconst 1, 1, 0, 0), (16, .isub, 1, 0, 0), (17, .iaload, 1, 0, 0), (18, .iload_n 1, 1, 0, 0), (19, .if_icmp .lt 22, 3, 0, 0), (22, .aload_n 0, 1, 0, 0), (23, .getfield 18, 3, 3, 2), (26, .aload_n 0, 1, 0, 0), (27, .getfield 22, 3, 3, 3), (30, .iconst 1, 1, 0, 0), (31, .isub, 1, 0, 0), (32, .iaload, 1, 0, 0), (33, .iload_n 2, 1, 0, 0), (34, .if_icmp .gt 7, 3, 0, 0), (37, .iconst 1, 1, 0, 0), (38, .goto 4, 3, 0, 0), (41, .iconst 0, 1, 0, 0), (42, .ireturn, 1, 0, 0)]
/-- SerialGate$LawReader.isPending(II)Z -/
def mm_M33 : mm_M := (yX3_isPending, cX3_isPending, 3, (some .boolean), 3, false, [], [], mm_k33)
theorem mm_d33 : mm_k33.all (fun q => mm_deq (decode cX3_isPending q.1) q.2.1 q.2.2.1) = true := by decide +kernel
def mm_k34 : List mm_I := [(0, .aload_n 0, 1, 0, 0), (1, .getfield 22, 3, 3, 3), (4, .ifCond .le 43, 3, 0, 0), (7, .aload_n 0, 1, 0, 0), (8, .sipush 2001, 3, 0, 0), (11, .iload_n 1, 1, 0, 0), (12, .invokevirtual 101, 3, 0, 33), (15, .ifCond .eq 32, 3, 0, 0), (18, .aload_n 0, 1, 0, 0), (19, .dup, 1, 0, 0), (20, .getfield 22, 3, 3, 3), (23, .iconst 1, 1, 0, 0), (24, .isub, 1, 0, 0), (25, .putfield 22, 3, 3, 3), (28, .aload_n 0, 1, 0, 0), (29, .getfield 12, 3, 3, 0), (32, .aload_n 0, 1, 0, 0), (33, .getfield 18, 3, 3, 2), (36, .aload_n 0, 1, 0, 0), (37, .getfield 22, 3, 3, 3), (40, .iaload, 1, 0, 0), (41, .invokevirtual 105, 3, 0, 23), (44, .goto (-44), 3, 0, 0), (47, .iload_n 2, 1, 0, 0), (48, .iconst (-1), 1, 0, 0), (49, .if_icmp .eq 8, 3, 0, 0), (52, .aload_n 0, 1, 0, 0), (53, .iload_n 2, 1, 0, 0), (54, .invokevirtual 98, 3, 0, 32), (57, .return_, 1, 0, 0)]
/-- SerialGate$LawReader.join(II)V -/
def mm_M34 : mm_M := (yX3_join, cX3_join, 3, none, 3, false, [], [], mm_k34)
theorem mm_d34 : mm_k34.all (fun q => mm_deq (decode cX3_join q.1) q.2.1 q.2.2.1) = true := by decide +kernel
def mm_k35 : List mm_I := [(0, .aload_n 0, 1, 0, 0), (1, .getfield 22, 3, 3, 3), (4, .ifCond .le 49, 3, 0, 0), (7, .aload_n 0, 1, 0, 0), (8, .sipush 2000, 3, 0, 0), (11, .sipush 2000, 3, 0, 0), (14, .invokevirtual 101, 3, 0, 33), (17, .ifCond .eq 36, 3, 0, 0), (20, .aload_n 0, 1, 0, 0), (21, .dup, 1, 0, 0), (22, .getfield 22, 3, 3, 3), (25, .iconst 1, 1, 0, 0), (26, .isub, 1, 0, 0), (27, .putfield 22, 3, 3, 3), (30, .aload_n 0, 1, 0, 0), (31, .dup, 1, 0, 0), (32, .getfield 26, 3, 3, 4), (35, .iconst 1, 1, 0, 0), (36, .isub, 1, 0, 0), (37, .putfield 26, 3, 3, 4), (40, .aload_n 0, 1, 0, 0), (41, .getfield 12, 3, 3, 0), (44, .sipush 2000, 3, 0, 0), (47, .invokevirtual 105, 3, 0, 23), (50, .goto (-50), 3, 0, 0), (53, .return_, 1, 0, 0)]
/-- SerialGate$LawReader.endNots()V -/
def mm_M35 : mm_M := (yX3_endNots, cX3_endNots, 1, none, 3, false, [], [], mm_k35)
theorem mm_d35 : mm_k35.all (fun q => mm_deq (decode cX3_endNots q.1) q.2.1 q.2.2.1) = true := by decide +kernel
def mm_k36 : List mm_I := [(0, .aload_n 0, 1, 0, 0), (1, .sipush 3000, 3, 0, 0), (4, .sipush 3000, 3, 0, 0), (7, .invokevirtual 101, 3, 0, 33), (10, .ifCond .eq 23, 3, 0, 0), (13, .aload_n 0, 1, 0, 0), (14, .dup, 1, 0, 0), (15, .getfield 22, 3, 3, 3), (18, .iconst 1, 1, 0, 0), (19, .isub, 1, 0, 0), (20, .putfield 22, 3, 3, 3), (23, .aload_n 0, 1, 0, 0), (24, .dup, 1, 0, 0), (25, .getfield 26, 3, 3, 4), (28, .iconst 1, 1, 0, 0), (29, .isub, 1, 0, 0), (30, .putfield 26, 3, 3, 4), (33, .aload_n 0, 1, 0, 0), (34, .invokevirtual 85, 3, 0, 35), (37, .return_, 1, 0, 0)]
/-- SerialGate$LawReader.endBracket()V -/
def mm_M36 : mm_M := (yX3_endBracket, cX3_endBracket, 1, none, 3, false, [], [], mm_k36)
theorem mm_d36 : mm_k36.all (fun q => mm_deq (decode cX3_endBracket q.1) q.2.1 q.2.2.1) = true := by decide +kernel
def mm_k37 : List mm_I := [(0, .aload_n 0, 1, 0, 0), (1, .invokevirtual 108, 3, 0, 39), (4, .istore_n 1, 1, 0, 0), (5, .iload_n 1, 1, 0, 0), (6, .iconst (-1), 1, 0, 0), (7, .if_icmp .eq 17, 3, 0, 0), (10, .aload_n 0, 1, 0, 0), (11, .getfield 12, 3, 3, 0), (14, .sipush 1000, 3, 0, 0), (17, .iload_n 1, 1, 0, 0), (18, .iadd, 1, 0, 0), (19, .invokevirtual 105, 3, 0, 23), (22, .iconst 1, 1, 0, 0), (23, .ireturn, 1, 0, 0), (24, .aload_n 0, 1, 0, 0), (25, .invokevirtual 111, 3, 0, 38), (28, .ifCond .ne 5, 3, 0, 0), (31, .iconst 0, 1, 0, 0), (32, .ireturn, 1, 0, 0), (33, .aload_n 0, 1, 0, 0), (34, .getfield 29, 3, 3, 1), (37, .bipush 60, 2, 0, 0), (39, .invokevirtual 66, 3, 0, 104), (42, .ifCond .eq 9, 3, 0, 0), (45, .sipush 2004, 3, 0, 0), (48, .goto 22, 3, 0, 0), (51, .aload_n 0, 1, 0, 0), (52, .getfield 29, 3, 3, 1), (55, .bipush 62, 2, 0, 0), (57, .invokevirtual 66, 3, 0, 104), (60, .ifCond .eq 9, 3, 0, 0), (63, .sipush 2005, 3, 0, 0), (66, .goto 4, 3, 0, 0), (69, .iconst (-1), 1, 0, 0), (70, .istore_n 2, 1, 0, 0), (71, .iload_n 2, 1, 0, 0), (72, .iconst (-1), 1, 0, 0), (73, .if_icmp .eq 10, 3, 0, 0), (76, .aload_n 0, 1, 0, 0), (77, .invokevirtual 111, 3, 0, 38), (80, .ifCond .ne 5, 3, 0, 0), (83, .iconst 0, 1, 0, 0), (84, .ireturn, 1, 0, 0), (85, .aload_n 0, 1, 0, 0), (86, .getfield 12, 3, 3, 0), (89, .iload_n 2, 1, 0, 0), (90, .invokevirtual 105, 3, 0, 23), (93, .iconst 1, 1, 0, 0), (94, .ireturn, 1, 0, 0)]
/-- SerialGate$LawReader.readsAtom()Z -/
def mm_M37 : mm_M := (yX3_readsAtom, cX3_readsAtom, 3, (some .boolean), 3, false, [], [], mm_k37)
theorem mm_d37 : mm_k37.all (fun q => mm_deq (decode cX3_readsAtom q.1) q.2.1 q.2.2.1) = true := by decide +kernel
def mm_k38 : List mm_I := [(0, .iconst 0, 1, 0, 0), (1, .istore_n 1, 1, 0, 0), (2, .iload_n 1, 1, 0, 0), (3, .sipush 400, 3, 0, 0), (6, .if_icmp .ge 73, 3, 0, 0), (9, .aload_n 0, 1, 0, 0), (10, .getfield 29, 3, 3, 1), (13, .sipush 999, 3, 0, 0), (16, .invokevirtual 49, 3, 0, 108), (19, .istore_n 2, 1, 0, 0), (20, .iload_n 2, 1, 0, 0), (21, .iconst (-1), 1, 0, 0), (22, .if_icmp .ne 8, 3, 0, 0), (25, .aload_n 0, 1, 0, 0), (26, .invokevirtual 114, 3, 0, 40), (29, .istore_n 2, 1, 0, 0), (30, .iload_n 2, 1, 0, 0), (31, .iconst (-1), 1, 0, 0), (32, .if_icmp .ne 5, 3, 0, 0), (35, .iconst 0, 1, 0, 0), (36, .ireturn, 1, 0, 0), (37, .aload_n 0, 1, 0, 0), (38, .getfield 12, 3, 3, 0), (41, .iload_n 2, 1, 0, 0), (42, .invokevirtual 105, 3, 0, 23), (45, .iload_n 1, 1, 0, 0), (46, .ifCond .le 13, 3, 0, 0), (49, .aload_n 0, 1, 0, 0), (50, .getfield 12, 3, 3, 0), (53, .sipush 2003, 3, 0, 0), (56, .invokevirtual 105, 3, 0, 23), (59, .aload_n 0, 1, 0, 0), (60, .getfield 29, 3, 3, 1), (63, .bipush 43, 2, 0, 0), (65, .invokevirtual 66, 3, 0, 104), (68, .ifCond .ne 5, 3, 0, 0), (71, .iconst 1, 1, 0, 0), (72, .ireturn, 1, 0, 0), (73, .iinc 1 1, 3, 0, 0), (76, .goto (-74), 3, 0, 0), (79, .iconst 0, 1, 0, 0), (80, .ireturn, 1, 0, 0)]
/-- SerialGate$LawReader.readsSum()Z -/
def mm_M38 : mm_M := (yX3_readsSum, cX3_readsSum, 3, (some .boolean), 3, false, [], [], mm_k38)
theorem mm_d38 : mm_k38.all (fun q => mm_deq (decode cX3_readsSum q.1) q.2.1 q.2.2.1) = true := by decide +kernel
def mm_k39 : List mm_I := [(0, .aload_n 0, 1, 0, 0), (1, .getfield 29, 3, 3, 1), (4, .ldc 117, 2, 0, 4), (6, .invokevirtual 55, 3, 0, 105), (9, .ifCond .eq 6, 3, 0, 0), (12, .bipush 7, 2, 0, 0), (14, .ireturn, 1, 0, 0), (15, .aload_n 0, 1, 0, 0), (16, .getfield 29, 3, 3, 1), (19, .ldc 119, 2, 0, 15), (21, .invokevirtual 55, 3, 0, 105), (24, .ifCond .eq 6, 3, 0, 0), (27, .bipush 8, 2, 0, 0), (29, .ireturn, 1, 0, 0), (30, .aload_n 0, 1, 0, 0), (31, .getfield 29, 3, 3, 1), (34, .ldc 121, 2, 0, 16), (36, .invokevirtual 55, 3, 0, 105), (39, .ifCond .eq 8, 3, 0, 0), (42, .bipush 9, 2, 0, 0), (44, .goto 4, 3, 0, 0), (47, .iconst (-1), 1, 0, 0), (48, .ireturn, 1, 0, 0)]
/-- SerialGate$LawReader.takenFlag()I -/
def mm_M39 : mm_M := (yX3_takenFlag, cX3_takenFlag, 1, (some .int), 3, false, [], [], mm_k39)
theorem mm_d39 : mm_k39.all (fun q => mm_deq (decode cX3_takenFlag q.1) q.2.1 q.2.2.1) = true := by decide +kernel
def mm_k40 : List mm_I := [(0, .aload_n 0, 1, 0, 0), (1, .getfield 29, 3, 3, 1), (4, .ldc 123, 2, 0, 17), (6, .invokevirtual 55, 3, 0, 105), (9, .ifCond .eq 7, 3, 0, 0), (12, .sipush 1000, 3, 0, 0), (15, .ireturn, 1, 0, 0), (16, .aload_n 0, 1, 0, 0), (17, .getfield 29, 3, 3, 1), (20, .ldc 125, 2, 0, 1), (22, .invokevirtual 55, 3, 0, 105), (25, .ifCond .eq 7, 3, 0, 0), (28, .sipush 1001, 3, 0, 0), (31, .ireturn, 1, 0, 0), (32, .aload_n 0, 1, 0, 0), (33, .getfield 29, 3, 3, 1), (36, .ldc 127, 2, 0, 18), (38, .invokevirtual 55, 3, 0, 105), (41, .ifCond .eq 7, 3, 0, 0), (44, .sipush 1002, 3, 0, 0), (47, .ireturn, 1, 0, 0), (48, .aload_n 0, 1, 0, 0), (49, .getfield 29, 3, 3, 1), (52, .ldc 129, 2, 0, 2), (54, .invokevirtual 55, 3, 0, 105), (57, .ifCond .eq 7, 3, 0, 0), (60, .sipush 1003, 3, 0, 0), (63, .ireturn, 1, 0, 0), (64, .aload_n 0, 1, 0, 0), (65, .getfield 29, 3, 3, 1), (68, .ldc 131, 2, 0, 3), (70, .invokevirtual 55, 3, 0, 105), (73, .ifCond .eq 7, 3, 0, 0), (76, .sipush 1004, 3, 0, 0), (79, .ireturn, 1, 0, 0), (80, .aload_n 0, 1, 0, 0), (81, .getfield 29, 3, 3, 1), (84, .ldc 133, 2, 0, 19), (86, .invokevirtual 55, 3, 0, 105), (89, .ifCond .eq 7, 3, 0, 0), (92, .sipush 1005, 3, 0, 0), (95, .ireturn, 1, 0, 0), (96, .aload_n 0, 1, 0, 0), (97, .getfield 29, 3, 3, 1), (100, .ldc 135, 2, 0, 20), (102, .invokevirtual 55, 3, 0, 105), (105, .ifCond .eq 9, 3, 0, 0), (108, .sipush 1006, 3, 0, 0), (111, .goto 4, 3, 0, 0), (114, .iconst (-1), 1, 0, 0), (115, .ireturn, 1, 0, 0)]
/-- SerialGate$LawReader.takenFact()I -/
def mm_M40 : mm_M := (yX3_takenFact, cX3_takenFact, 1, (some .int), 3, false, [], [], mm_k40)
theorem mm_d40 : mm_k40.all (fun q => mm_deq (decode cX3_takenFact q.1) q.2.1 q.2.2.1) = true := by decide +kernel
def mm_k41 : List mm_I := [(0, .aload_n 0, 1, 0, 0), (1, .invokespecial 3, 3, 1, 0), (4, .aload_n 0, 1, 0, 0), (5, .iconst 0, 1, 0, 0), (6, .putfield 9, 3, 4, 0), (9, .aload_n 0, 1, 0, 0), (10, .iconst 0, 1, 0, 0), (11, .putfield 15, 3, 4, 1), (14, .aload_n 0, 1, 0, 0), (15, .sipush 240, 3, 0, 0), (18, .newarray .int, 2, 0, 0), (20, .putfield 18, 3, 4, 2), (23, .return_, 1, 0, 0)]
/-- SerialGate$Log.<init>()V -/
def mm_M41 : mm_M := (yX4_init, cX4_init, 1, none, 4, true, [], [], mm_k41)
theorem mm_d41 : mm_k41.all (fun q => mm_deq (decode cX4_init q.1) q.2.1 q.2.2.1) = true := by decide +kernel
def mm_k42 : List mm_I := [(0, .aload_n 0, 1, 0, 0), (1, .aload_n 1, 1, 0, 0), (2, .getfield 9, 3, 4, 0), (5, .putfield 9, 3, 4, 0), (8, .aload_n 0, 1, 0, 0), (9, .aload_n 1, 1, 0, 0), (10, .getfield 15, 3, 4, 1), (13, .putfield 15, 3, 4, 1), (16, .aload_n 1, 1, 0, 0), (17, .getfield 18, 3, 4, 2), (20, .iconst 0, 1, 0, 0), (21, .aload_n 0, 1, 0, 0), (22, .getfield 18, 3, 4, 2), (25, .iconst 0, 1, 0, 0), (26, .sipush 240, 3, 0, 0), (29, .invokestatic 22, 3, 1, 0), (32, .return_, 1, 0, 0)]
/-- SerialGate$Log.copyFrom(LSerialGate$Log;)V -/
def mm_M42 : mm_M := (yX4_copyFrom, cX4_copyFrom, 2, none, 4, false, [], [], mm_k42)
theorem mm_d42 : mm_k42.all (fun q => mm_deq (decode cX4_copyFrom q.1) q.2.1 q.2.2.1) = true := by decide +kernel
def mm_k43 : List mm_I := [(0, .aload_n 0, 1, 0, 0), (1, .getfield 18, 3, 4, 2), (4, .aload_n 0, 1, 0, 0), (5, .getfield 15, 3, 4, 1), (8, .iconst 4, 1, 0, 0), (9, .imul, 1, 0, 0), (10, .iload_n 1, 1, 0, 0), (11, .iastore, 1, 0, 0), (12, .aload_n 0, 1, 0, 0), (13, .getfield 18, 3, 4, 2), (16, .aload_n 0, 1, 0, 0), (17, .getfield 15, 3, 4, 1), (20, .iconst 4, 1, 0, 0), (21, .imul, 1, 0, 0), (22, .iconst 1, 1, 0, 0), (23, .iadd, 1, 0, 0), (24, .iload_n 2, 1, 0, 0), (25, .iastore, 1, 0, 0), (26, .aload_n 0, 1, 0, 0), (27, .getfield 18, 3, 4, 2), (30, .aload_n 0, 1, 0, 0), (31, .getfield 15, 3, 4, 1), (34, .iconst 4, 1, 0, 0), (35, .imul, 1, 0, 0), (36, .iconst 2, 1, 0, 0), (37, .iadd, 1, 0, 0), (38, .iload_n 3, 1, 0, 0), (39, .iastore, 1, 0, 0), (40, .aload_n 0, 1, 0, 0), (41, .getfield 18, 3, 4, 2), (44, .aload_n 0, 1, 0, 0), (45, .getfield 15, 3, 4, 1), (48, .iconst 4, 1, 0, 0), (49, .imul, 1, 0, 0), (50, .iconst 3, 1, 0, 0), (51, .iadd, 1, 0, 0), (52, .iload 4, 2, 0, 0), (54, .iastore, 1, 0, 0), (55, .aload_n 0, 1, 0, 0), (56, .aload_n 0, 1, 0, 0), (57, .getfield 15, 3, 4, 1), (60, .iconst 1, 1, 0, 0), (61, .iadd, 1, 0, 0), (62, .bipush 60, 2, 0, 0), (64, .irem, 1, 0, 0), (65, .putfield 15, 3, 4, 1), (68, .aload_n 0, 1, 0, 0), (69, .bipush 60, 2, 0, 0), (71, .aload_n 0, 1, 0, 0), (72, .getfield 9, 3, 4, 0), (75, .iconst 1, 1, 0, 0), (76, .iadd, 1, 0, 0), (77, .invokestatic 28, 3, 0, 345), (80, .putfield 9, 3, 4, 0), (83, .return_, 1, 0, 0)]
/-- SerialGate$Log.add(IIII)V -/
def mm_M43 : mm_M := (yX4_add, cX4_add, 5, none, 4, false, [], [], mm_k43)
theorem mm_d43 : mm_k43.all (fun q => mm_deq (decode cX4_add q.1) q.2.1 q.2.2.1) = true := by decide +kernel
def mm_k44 : List mm_I := [(0, .iload_n 1, 1, 0, 0), (1, .ifCond .lt 11, 3, 0, 0), (4, .iload_n 1, 1, 0, 0), (5, .aload_n 0, 1, 0, 0), (6, .getfield 9, 3, 4, 0), (9, .if_icmp .lt 5, 3, 0, 0), (12, .iconst (-1), 1, 0, 0), (13, .ireturn, 1, 0, 0), (14, .aload_n 0, 1, 0, 0), (15, .getfield 18, 3, 4, 2), (18, .aload_n 0, 1, 0, 0), (19, .getfield 15, 3, 4, 1), (22, .iconst 1, 1, 0, 0), (23, .isub, 1, 0, 0), (24, .iload_n 1, 1, 0, 0), (25, .isub, 1, 0, 0), (26, .bipush 60, 2, 0, 0), (28, .iadd, 1, 0, 0), (29, .bipush 60, 2, 0, 0), (31, .irem, 1, 0, 0), (32, .iconst 4, 1, 0, 0), (33, .imul, 1, 0, 0), (34, .iload_n 2, 1, 0, 0), (35, .iadd, 1, 0, 0), (36, .iaload, 1, 0, 0), (37, .ireturn, 1, 0, 0)]
/-- SerialGate$Log.tell(II)I -/
def mm_M44 : mm_M := (yX4_tell, cX4_tell, 3, (some .int), 4, false, [], [], mm_k44)
theorem mm_d44 : mm_k44.all (fun q => mm_deq (decode cX4_tell q.1) q.2.1 q.2.2.1) = true := by decide +kernel
def mm_k45 : List mm_I := [(0, .aload_n 0, 1, 0, 0), (1, .iload_n 1, 1, 0, 0), (2, .iconst 2, 1, 0, 0), (3, .invokevirtual 34, 3, 0, 44), (6, .istore_n 3, 1, 0, 0), (7, .aload_n 0, 1, 0, 0), (8, .iload_n 1, 1, 0, 0), (9, .iconst 1, 1, 0, 0), (10, .invokevirtual 34, 3, 0, 44), (13, .iload_n 2, 1, 0, 0), (14, .if_icmp .ne 17, 3, 0, 0), (17, .iload_n 3, 1, 0, 0), (18, .iconst 1, 1, 0, 0), (19, .if_icmp .lt 12, 3, 0, 0), (22, .iload_n 3, 1, 0, 0), (23, .iconst 3, 1, 0, 0), (24, .if_icmp .gt 7, 3, 0, 0), (27, .iconst 1, 1, 0, 0), (28, .goto 4, 3, 0, 0), (31, .iconst 0, 1, 0, 0), (32, .ireturn, 1, 0, 0)]
/-- SerialGate$Log.isLed(II)Z -/
def mm_M45 : mm_M := (yX4_isLed, cX4_isLed, 4, (some .boolean), 4, false, [], [], mm_k45)
theorem mm_d45 : mm_k45.all (fun q => mm_deq (decode cX4_isLed q.1) q.2.1 q.2.2.1) = true := by decide +kernel
def mm_k46 : List mm_I := [(0, .iconst 0, 1, 0, 0), (1, .istore_n 2, 1, 0, 0), (2, .iconst 0, 1, 0, 0), (3, .istore_n 3, 1, 0, 0), (4, .iload_n 3, 1, 0, 0), (5, .aload_n 0, 1, 0, 0), (6, .getfield 9, 3, 4, 0), (9, .if_icmp .ge 21, 3, 0, 0), (12, .aload_n 0, 1, 0, 0), (13, .iload_n 3, 1, 0, 0), (14, .iload_n 1, 1, 0, 0), (15, .invokevirtual 37, 3, 0, 45), (18, .ifCond .eq 6, 3, 0, 0), (21, .iinc 2 1, 3, 0, 0), (24, .iinc 3 1, 3, 0, 0), (27, .goto (-23), 3, 0, 0), (30, .iload_n 2, 1, 0, 0), (31, .ireturn, 1, 0, 0)]
/-- SerialGate$Log.ledRows(I)I -/
def mm_M46 : mm_M := (yX4_ledRows, cX4_ledRows, 4, (some .int), 4, false, [], [], mm_k46)
theorem mm_d46 : mm_k46.all (fun q => mm_deq (decode cX4_ledRows q.1) q.2.1 q.2.2.1) = true := by decide +kernel
def mm_k47 : List mm_I := [(0, .iconst 0, 1, 0, 0), (1, .istore_n 2, 1, 0, 0), (2, .iload_n 2, 1, 0, 0), (3, .aload_n 0, 1, 0, 0), (4, .getfield 9, 3, 4, 0), (7, .if_icmp .ge 25, 3, 0, 0), (10, .aload_n 0, 1, 0, 0), (11, .iload_n 2, 1, 0, 0), (12, .iload_n 1, 1, 0, 0), (13, .invokevirtual 37, 3, 0, 45), (16, .ifCond .eq 10, 3, 0, 0), (19, .aload_n 0, 1, 0, 0), (20, .iload_n 2, 1, 0, 0), (21, .iconst 0, 1, 0, 0), (22, .invokevirtual 34, 3, 0, 44), (25, .ireturn, 1, 0, 0), (26, .iinc 2 1, 3, 0, 0), (29, .goto (-27), 3, 0, 0), (32, .iconst (-1), 1, 0, 0), (33, .ireturn, 1, 0, 0)]
/-- SerialGate$Log.latestLed(I)I -/
def mm_M47 : mm_M := (yX4_latestLed, cX4_latestLed, 3, (some .int), 4, false, [], [], mm_k47)
theorem mm_d47 : mm_k47.all (fun q => mm_deq (decode cX4_latestLed q.1) q.2.1 q.2.2.1) = true := by decide +kernel
def mm_k48 : List mm_I := [(0, .aload_n 0, 1, 0, 0), (1, .invokespecial 3, 3, 1, 0), (4, .aload_n 0, 1, 0, 0), (5, .iconst 5, 1, 0, 0), (6, .newarray .int, 2, 0, 0), (8, .putfield 9, 3, 5, 1), (11, .aload_n 0, 1, 0, 0), (12, .iconst 5, 1, 0, 0), (13, .newarray .int, 2, 0, 0), (15, .putfield 15, 3, 5, 2), (18, .aload_n 0, 1, 0, 0), (19, .iconst 5, 1, 0, 0), (20, .newarray .int, 2, 0, 0), (22, .putfield 18, 3, 5, 3), (25, .aload_n 0, 1, 0, 0), (26, .iconst 0, 1, 0, 0), (27, .putfield 21, 3, 5, 4), (30, .aload_n 0, 1, 0, 0), (31, .aload_n 1, 1, 0, 0), (32, .putfield 25, 3, 5, 0), (35, .return_, 1, 0, 0)]
/-- SerialGate$Planner.<init>(LSerialGate$Clients;)V -/
def mm_M48 : mm_M := (yX5_init, cX5_init, 2, none, 5, true, [], [], mm_k48)
theorem mm_d48 : mm_k48.all (fun q => mm_deq (decode cX5_init q.1) q.2.1 q.2.2.1) = true := by decide +kernel
def mm_k49 : List mm_I := [(0, .iconst 0, 1, 0, 0), (1, .istore_n 1, 1, 0, 0), (2, .iconst 1, 1, 0, 0), (3, .istore_n 2, 1, 0, 0), (4, .iload_n 2, 1, 0, 0), (5, .iconst 1, 1, 0, 0), (6, .aload_n 0, 1, 0, 0), (7, .getfield 25, 3, 5, 0), (10, .getfield 29, 3, 0, 0), (13, .ishl, 1, 0, 0), (14, .if_icmp .ge 30, 3, 0, 0), (17, .iload_n 2, 1, 0, 0), (18, .invokestatic 34, 3, 0, 343), (21, .iload_n 1, 1, 0, 0), (22, .invokestatic 34, 3, 0, 343), (25, .if_icmp .le 13, 3, 0, 0), (28, .aload_n 0, 1, 0, 0), (29, .iload_n 2, 1, 0, 0), (30, .invokevirtual 40, 3, 0, 50), (33, .ifCond .eq 5, 3, 0, 0), (36, .iload_n 2, 1, 0, 0), (37, .istore_n 1, 1, 0, 0), (38, .iinc 2 1, 3, 0, 0), (41, .goto (-37), 3, 0, 0), (44, .iload_n 1, 1, 0, 0), (45, .ireturn, 1, 0, 0)]
/-- SerialGate$Planner.mostApart()I -/
def mm_M49 : mm_M := (yX5_mostApart, cX5_mostApart, 3, (some .int), 5, false, [], [], mm_k49)
theorem mm_d49 : mm_k49.all (fun q => mm_deq (decode cX5_mostApart q.1) q.2.1 q.2.2.1) = true := by decide +kernel
def mm_k50 : List mm_I := [(0, .iconst 0, 1, 0, 0), (1, .istore_n 2, 1, 0, 0), (2, .iload_n 2, 1, 0, 0), (3, .aload_n 0, 1, 0, 0), (4, .getfield 25, 3, 5, 0), (7, .getfield 29, 3, 0, 0), (10, .if_icmp .ge 52, 3, 0, 0), (13, .iconst 0, 1, 0, 0), (14, .istore_n 3, 1, 0, 0), (15, .iload_n 3, 1, 0, 0), (16, .iload_n 2, 1, 0, 0), (17, .if_icmp .ge 39, 3, 0, 0), (20, .iload_n 1, 1, 0, 0), (21, .iload_n 2, 1, 0, 0), (22, .ishr, 1, 0, 0), (23, .iconst 1, 1, 0, 0), (24, .iand, 1, 0, 0), (25, .ifCond .eq 25, 3, 0, 0), (28, .iload_n 1, 1, 0, 0), (29, .iload_n 3, 1, 0, 0), (30, .ishr, 1, 0, 0), (31, .iconst 1, 1, 0, 0), (32, .iand, 1, 0, 0), (33, .ifCond .eq 17, 3, 0, 0), (36, .aload_n 0, 1, 0, 0), (37, .getfield 25, 3, 5, 0), (40, .iload_n 2, 1, 0, 0), (41, .iload_n 3, 1, 0, 0), (42, .invokevirtual 44, 3, 0, 5), (45, .ifCond .eq 5, 3, 0, 0), (48, .iconst 0, 1, 0, 0), (49, .ireturn, 1, 0, 0), (50, .iinc 3 1, 3, 0, 0), (53, .goto (-38), 3, 0, 0), (56, .iinc 2 1, 3, 0, 0), (59, .goto (-57), 3, 0, 0), (62, .iconst 1, 1, 0, 0), (63, .ireturn, 1, 0, 0)]
/-- SerialGate$Planner.areApart(I)Z -/
def mm_M50 : mm_M := (yX5_areApart, cX5_areApart, 4, (some .boolean), 5, false, [], [], mm_k50)
theorem mm_d50 : mm_k50.all (fun q => mm_deq (decode cX5_areApart q.1) q.2.1 q.2.2.1) = true := by decide +kernel
def mm_k51 : List mm_I := [(0, .iconst 0, 1, 0, 0), (1, .istore_n 1, 1, 0, 0), (2, .iload_n 1, 1, 0, 0), (3, .aload_n 0, 1, 0, 0), (4, .getfield 25, 3, 5, 0), (7, .getfield 29, 3, 0, 0), (10, .if_icmp .ge 21, 3, 0, 0), (13, .aload_n 0, 1, 0, 0), (14, .iconst 0, 1, 0, 0), (15, .iconst 0, 1, 0, 0), (16, .iload_n 1, 1, 0, 0), (17, .invokestatic 48, 3, 0, 53), (20, .ifCond .eq 5, 3, 0, 0), (23, .iload_n 1, 1, 0, 0), (24, .ireturn, 1, 0, 0), (25, .iinc 1 1, 3, 0, 0), (28, .goto (-26), 3, 0, 0), (31, .aload_n 0, 1, 0, 0), (32, .iconst 0, 1, 0, 0), (33, .iconst 0, 1, 0, 0), (34, .aload_n 0, 1, 0, 0), (35, .getfield 25, 3, 5, 0), (38, .getfield 29, 3, 0, 0), (41, .invokestatic 48, 3, 0, 53), (44, .pop, 1, 0, 0), (45, .aload_n 0, 1, 0, 0), (46, .getfield 25, 3, 5, 0), (49, .getfield 29, 3, 0, 0), (52, .ireturn, 1, 0, 0)]
/-- SerialGate$Planner.fewestRounds()I -/
def mm_M51 : mm_M := (yX5_fewestRounds, cX5_fewestRounds, 2, (some .int), 5, false, [], [], mm_k51)
theorem mm_d51 : mm_k51.all (fun q => mm_deq (decode cX5_fewestRounds q.1) q.2.1 q.2.2.1) = true := by decide +kernel
def mm_k52 : List mm_I := [(0, .aload_n 0, 1, 0, 0), (1, .invokevirtual 52, 3, 0, 51), (4, .pop, 1, 0, 0), (5, .aload_n 0, 1, 0, 0), (6, .getfield 9, 3, 5, 1), (9, .iload_n 1, 1, 0, 0), (10, .iaload, 1, 0, 0), (11, .ireturn, 1, 0, 0)]
/-- SerialGate$Planner.roundOf(I)I -/
def mm_M52 : mm_M := (yX5_roundOf, cX5_roundOf, 2, (some .int), 5, false, [], [], mm_k52)
theorem mm_d52 : mm_k52.all (fun q => mm_deq (decode cX5_roundOf q.1) q.2.1 q.2.2.1) = true := by decide +kernel
def mm_k53 : List mm_I := [(0, .iload_n 1, 1, 0, 0), (1, .aload_n 0, 1, 0, 0), (2, .getfield 25, 3, 5, 0), (5, .getfield 29, 3, 0, 0), (8, .if_icmp .lt 5, 3, 0, 0), (11, .iconst 1, 1, 0, 0), (12, .ireturn, 1, 0, 0), (13, .iconst 0, 1, 0, 0), (14, .istore 4, 2, 0, 0), (16, .iload 4, 2, 0, 0), (18, .iload_n 2, 1, 0, 0), (19, .if_icmp .gt 59, 3, 0, 0), (22, .iload 4, 2, 0, 0), (24, .iload_n 3, 1, 0, 0), (25, .if_icmp .ge 53, 3, 0, 0), (28, .aload_n 0, 1, 0, 0), (29, .iload_n 1, 1, 0, 0), (30, .iload 4, 2, 0, 0), (32, .invokevirtual 56, 3, 0, 54), (35, .ifCond .eq 37, 3, 0, 0), (38, .aload_n 0, 1, 0, 0), (39, .getfield 9, 3, 5, 1), (42, .iload_n 1, 1, 0, 0), (43, .iload 4, 2, 0, 0), (45, .iastore, 1, 0, 0), (46, .aload_n 0, 1, 0, 0), (47, .iload_n 1, 1, 0, 0), (48, .iconst 1, 1, 0, 0), (49, .iadd, 1, 0, 0), (50, .iload 4, 2, 0, 0), (52, .iload_n 2, 1, 0, 0), (53, .if_icmp .ne 9, 3, 0, 0), (56, .iload_n 2, 1, 0, 0), (57, .iconst 1, 1, 0, 0), (58, .iadd, 1, 0, 0), (59, .goto 4, 3, 0, 0), (62, .iload_n 2, 1, 0, 0), (63, .iload_n 3, 1, 0, 0), (64, .invokestatic 48, 3, 0, 53), (67, .ifCond .eq 5, 3, 0, 0), (70, .iconst 1, 1, 0, 0), (71, .ireturn, 1, 0, 0), (72, .iinc 4 1, 3, 0, 0), (75, .goto (-59), 3, 0, 0), (78, .iconst 0, 1, 0, 0), (79, .ireturn, 1, 0, 0)]
/-- SerialGate$Planner.placesFrom(LSerialGate$Planner;III)Z -/
def mm_M53 : mm_M := (yX5_placesFrom, cX5_placesFrom, 5, (some .boolean), 5, false, [], [], mm_k53)
theorem mm_d53 : mm_k53.all (fun q => mm_deq (decode cX5_placesFrom q.1) q.2.1 q.2.2.1) = true := by decide +kernel
def mm_k54 : List mm_I := [(0, .iconst 0, 1, 0, 0), (1, .istore_n 3, 1, 0, 0), (2, .iload_n 3, 1, 0, 0), (3, .iload_n 1, 1, 0, 0), (4, .if_icmp .ge 33, 3, 0, 0), (7, .aload_n 0, 1, 0, 0), (8, .getfield 9, 3, 5, 1), (11, .iload_n 3, 1, 0, 0), (12, .iaload, 1, 0, 0), (13, .iload_n 2, 1, 0, 0), (14, .if_icmp .ne 17, 3, 0, 0), (17, .aload_n 0, 1, 0, 0), (18, .getfield 25, 3, 5, 0), (21, .iload_n 3, 1, 0, 0), (22, .iload_n 1, 1, 0, 0), (23, .invokevirtual 44, 3, 0, 5), (26, .ifCond .eq 5, 3, 0, 0), (29, .iconst 0, 1, 0, 0), (30, .ireturn, 1, 0, 0), (31, .iinc 3 1, 3, 0, 0), (34, .goto (-32), 3, 0, 0), (37, .iconst 1, 1, 0, 0), (38, .ireturn, 1, 0, 0)]
/-- SerialGate$Planner.fitsRound(II)Z -/
def mm_M54 : mm_M := (yX5_fitsRound, cX5_fitsRound, 4, (some .boolean), 5, false, [], [], mm_k54)
theorem mm_d54 : mm_k54.all (fun q => mm_deq (decode cX5_fitsRound q.1) q.2.1 q.2.2.1) = true := by decide +kernel
def mm_k55 : List mm_I := [(0, .sipush 1023, 3, 0, 0), (3, .istore_n 1, 1, 0, 0), (4, .iconst 0, 1, 0, 0), (5, .istore_n 2, 1, 0, 0), (6, .iload_n 2, 1, 0, 0), (7, .sipush 1024, 3, 0, 0), (10, .if_icmp .ge 30, 3, 0, 0), (13, .iload_n 2, 1, 0, 0), (14, .invokestatic 34, 3, 0, 343), (17, .iload_n 1, 1, 0, 0), (18, .invokestatic 34, 3, 0, 343), (21, .if_icmp .ge 13, 3, 0, 0), (24, .aload_n 0, 1, 0, 0), (25, .iload_n 2, 1, 0, 0), (26, .invokevirtual 59, 3, 0, 56), (29, .ifCond .eq 5, 3, 0, 0), (32, .iload_n 2, 1, 0, 0), (33, .istore_n 1, 1, 0, 0), (34, .iinc 2 1, 3, 0, 0), (37, .goto (-31), 3, 0, 0), (40, .iload_n 1, 1, 0, 0), (41, .ireturn, 1, 0, 0)]
/-- SerialGate$Planner.leastCover()I -/
def mm_M55 : mm_M := (yX5_leastCover, cX5_leastCover, 3, (some .int), 5, false, [], [], mm_k55)
theorem mm_d55 : mm_k55.all (fun q => mm_deq (decode cX5_leastCover q.1) q.2.1 q.2.2.1) = true := by decide +kernel
def mm_k56 : List mm_I := [(0, .iconst 0, 1, 0, 0), (1, .istore_n 2, 1, 0, 0), (2, .iload_n 2, 1, 0, 0), (3, .aload_n 0, 1, 0, 0), (4, .getfield 25, 3, 5, 0), (7, .getfield 29, 3, 0, 0), (10, .if_icmp .ge 30, 3, 0, 0), (13, .aload_n 0, 1, 0, 0), (14, .getfield 25, 3, 5, 0), (17, .iload_n 2, 1, 0, 0), (18, .invokevirtual 62, 3, 0, 4), (21, .istore_n 3, 1, 0, 0), (22, .iload_n 3, 1, 0, 0), (23, .ifCond .eq 11, 3, 0, 0), (26, .iload_n 3, 1, 0, 0), (27, .iload_n 1, 1, 0, 0), (28, .iand, 1, 0, 0), (29, .ifCond .ne 5, 3, 0, 0), (32, .iconst 0, 1, 0, 0), (33, .ireturn, 1, 0, 0), (34, .iinc 2 1, 3, 0, 0), (37, .goto (-35), 3, 0, 0), (40, .iconst 1, 1, 0, 0), (41, .ireturn, 1, 0, 0)]
/-- SerialGate$Planner.coversAll(I)Z -/
def mm_M56 : mm_M := (yX5_coversAll, cX5_coversAll, 4, (some .boolean), 5, false, [], [], mm_k56)
theorem mm_d56 : mm_k56.all (fun q => mm_deq (decode cX5_coversAll q.1) q.2.1 q.2.2.1) = true := by decide +kernel
def mm_k57 : List mm_I := [(0, .iconst 0, 1, 0, 0), (1, .istore_n 2, 1, 0, 0), (2, .iload_n 2, 1, 0, 0), (3, .iconst 5, 1, 0, 0), (4, .if_icmp .ge 16, 3, 0, 0), (7, .aload_n 0, 1, 0, 0), (8, .getfield 15, 3, 5, 2), (11, .iload_n 2, 1, 0, 0), (12, .iconst (-1), 1, 0, 0), (13, .iastore, 1, 0, 0), (14, .iinc 2 1, 3, 0, 0), (17, .goto (-15), 3, 0, 0), (20, .aload_n 0, 1, 0, 0), (21, .iconst (-1), 1, 0, 0), (22, .putfield 21, 3, 5, 4), (25, .aload_n 0, 1, 0, 0), (26, .iconst 0, 1, 0, 0), (27, .iconst 0, 1, 0, 0), (28, .invokestatic 65, 3, 0, 58), (31, .iload_n 1, 1, 0, 0), (32, .ifCond .lt 8, 3, 0, 0), (35, .iload_n 1, 1, 0, 0), (36, .iconst 5, 1, 0, 0), (37, .if_icmp .lt 10, 3, 0, 0), (40, .aload_n 0, 1, 0, 0), (41, .getfield 21, 3, 5, 4), (44, .goto 9, 3, 0, 0), (47, .aload_n 0, 1, 0, 0), (48, .getfield 18, 3, 5, 3), (51, .iload_n 1, 1, 0, 0), (52, .iaload, 1, 0, 0), (53, .ireturn, 1, 0, 0)]
/-- SerialGate$Planner.pairOf(I)I -/
def mm_M57 : mm_M := (yX5_pairOf, cX5_pairOf, 3, (some .int), 5, false, [], [], mm_k57)
theorem mm_d57 : mm_k57.all (fun q => mm_deq (decode cX5_pairOf q.1) q.2.1 q.2.2.1) = true := by decide +kernel
def mm_k58 : List mm_I := [(0, .aload_n 0, 1, 0, 0), (1, .getfield 25, 3, 5, 0), (4, .astore_n 3, 1, 0, 0), (5, .aload_n 0, 1, 0, 0), (6, .getfield 15, 3, 5, 2), (9, .astore 4, 2, 0, 0), (11, .iload_n 1, 1, 0, 0), (12, .aload_n 3, 1, 0, 0), (13, .getfield 29, 3, 0, 0), (16, .if_icmp .lt 29, 3, 0, 0), (19, .iload_n 2, 1, 0, 0), (20, .aload_n 0, 1, 0, 0), (21, .getfield 21, 3, 5, 4), (24, .if_icmp .le 20, 3, 0, 0), (27, .aload_n 0, 1, 0, 0), (28, .iload_n 2, 1, 0, 0), (29, .putfield 21, 3, 5, 4), (32, .aload 4, 2, 0, 0), (34, .iconst 0, 1, 0, 0), (35, .aload_n 0, 1, 0, 0), (36, .getfield 18, 3, 5, 3), (39, .iconst 0, 1, 0, 0), (40, .iconst 5, 1, 0, 0), (41, .invokestatic 69, 3, 1, 0), (44, .return_, 1, 0, 0), (45, .aload_n 0, 1, 0, 0), (46, .iload_n 1, 1, 0, 0), (47, .iconst 1, 1, 0, 0), (48, .iadd, 1, 0, 0), (49, .iload_n 2, 1, 0, 0), (50, .invokestatic 65, 3, 0, 58), (53, .iload_n 1, 1, 0, 0), (54, .iconst 1, 1, 0, 0), (55, .iadd, 1, 0, 0), (56, .istore 5, 2, 0, 0), (58, .aload 4, 2, 0, 0), (60, .iload_n 1, 1, 0, 0), (61, .iaload, 1, 0, 0), (62, .iconst (-1), 1, 0, 0), (63, .if_icmp .ne 91, 3, 0, 0), (66, .iload 5, 2, 0, 0), (68, .aload_n 3, 1, 0, 0), (69, .getfield 29, 3, 0, 0), (72, .if_icmp .ge 82, 3, 0, 0), (75, .aload 4, 2, 0, 0), (77, .iload 5, 2, 0, 0), (79, .iaload, 1, 0, 0), (80, .iconst (-1), 1, 0, 0), (81, .if_icmp .ne 67, 3, 0, 0), (84, .aload_n 3, 1, 0, 0), (85, .iload_n 1, 1, 0, 0), (86, .iload 5, 2, 0, 0), (88, .invokevirtual 44, 3, 0, 5), (91, .ifCond .ne 57, 3, 0, 0), (94, .aload 4, 2, 0, 0), (96, .iload_n 1, 1, 0, 0), (97, .iload 5, 2, 0, 0), (99, .iastore, 1, 0, 0), (100, .aload 4, 2, 0, 0), (102, .iload 5, 2, 0, 0), (104, .iload_n 1, 1, 0, 0), (105, .iastore, 1, 0, 0), (106, .aload_n 3, 1, 0, 0), (107, .iload_n 1, 1, 0, 0), (108, .invokevirtual 62, 3, 0, 4), (111, .invokestatic 34, 3, 0, 343), (114, .aload_n 3, 1, 0, 0), (115, .iload 5, 2, 0, 0), (117, .invokevirtual 62, 3, 0, 4), (120, .invokestatic 34, 3, 0, 343), (123, .iadd, 1, 0, 0), (124, .istore 6, 2, 0, 0), (126, .aload_n 0, 1, 0, 0), (127, .iload_n 1, 1, 0, 0), (128, .iconst 1, 1, 0, 0), (129, .iadd, 1, 0, 0), (130, .iload_n 2, 1, 0, 0), (131, .iload 6, 2, 0, 0), (133, .iadd, 1, 0, 0), (134, .invokestatic 65, 3, 0, 58), (137, .aload 4, 2, 0, 0), (139, .iload_n 1, 1, 0, 0), (140, .iconst (-1), 1, 0, 0), (141, .iastore, 1, 0, 0), (142, .aload 4, 2, 0, 0), (144, .iload 5, 2, 0, 0), (146, .iconst (-1), 1, 0, 0), (147, .iastore, 1, 0, 0), (148, .iinc 5 1, 3, 0, 0), (151, .goto (-93), 3, 0, 0), (154, .return_, 1, 0, 0)]
/-- SerialGate$Planner.pairFrom(LSerialGate$Planner;II)V -/
def mm_M58 : mm_M := (yX5_pairFrom, cX5_pairFrom, 7, none, 5, false, [], [], mm_k58)
theorem mm_d58 : mm_k58.all (fun q => mm_deq (decode cX5_pairFrom q.1) q.2.1 q.2.2.1) = true := by decide +kernel
def mm_k59 : List mm_I := [(0, .aload_n 0, 1, 0, 0), (1, .getfield 25, 3, 5, 0), (4, .iload_n 1, 1, 0, 0), (5, .iload_n 2, 1, 0, 0), (6, .invokevirtual 44, 3, 0, 5), (9, .ifCond .eq 8, 3, 0, 0), (12, .bipush (-2), 2, 0, 0), (14, .goto 4, 3, 0, 0), (17, .iconst 2, 1, 0, 0), (18, .istore_n 3, 1, 0, 0), (19, .iconst 0, 1, 0, 0), (20, .istore 4, 2, 0, 0), (22, .iconst 0, 1, 0, 0), (23, .istore 5, 2, 0, 0), (25, .iload 5, 2, 0, 0), (27, .iconst 2, 1, 0, 0), (28, .if_icmp .ge 124, 3, 0, 0), (31, .iconst 0, 1, 0, 0), (32, .istore 6, 2, 0, 0), (34, .iload 6, 2, 0, 0), (36, .iconst 2, 1, 0, 0), (37, .if_icmp .ge 109, 3, 0, 0), (40, .iload 5, 2, 0, 0), (42, .iload 6, 2, 0, 0), (44, .iload_n 3, 1, 0, 0), (45, .aload_n 0, 1, 0, 0), (46, .getfield 25, 3, 5, 0), (49, .getfield 75, 3, 0, 4), (52, .iload_n 1, 1, 0, 0), (53, .iaload, 1, 0, 0), (54, .invokestatic 78, 3, 0, 60), (57, .istore 7, 2, 0, 0), (59, .iload 6, 2, 0, 0), (61, .iload 5, 2, 0, 0), (63, .iload_n 3, 1, 0, 0), (64, .aload_n 0, 1, 0, 0), (65, .getfield 25, 3, 5, 0), (68, .getfield 75, 3, 0, 4), (71, .iload_n 2, 1, 0, 0), (72, .iaload, 1, 0, 0), (73, .invokestatic 78, 3, 0, 60), (76, .istore 8, 2, 0, 0), (78, .iload 7, 2, 0, 0), (80, .iconst 1, 1, 0, 0), (81, .iload 5, 2, 0, 0), (83, .isub, 1, 0, 0), (84, .iload 6, 2, 0, 0), (86, .iload_n 3, 1, 0, 0), (87, .aload_n 0, 1, 0, 0), (88, .getfield 25, 3, 5, 0), (91, .getfield 75, 3, 0, 4), (94, .iload_n 1, 1, 0, 0), (95, .iaload, 1, 0, 0), (96, .invokestatic 78, 3, 0, 60), (99, .if_icmp .lt 41, 3, 0, 0), (102, .iload 8, 2, 0, 0), (104, .iconst 1, 1, 0, 0), (105, .iload 6, 2, 0, 0), (107, .isub, 1, 0, 0), (108, .iload 5, 2, 0, 0), (110, .iload_n 3, 1, 0, 0), (111, .aload_n 0, 1, 0, 0), (112, .getfield 25, 3, 5, 0), (115, .getfield 75, 3, 0, 4), (118, .iload_n 2, 1, 0, 0), (119, .iaload, 1, 0, 0), (120, .invokestatic 78, 3, 0, 60), (123, .if_icmp .lt 17, 3, 0, 0), (126, .iload 4, 2, 0, 0), (128, .iconst 1, 1, 0, 0), (129, .iconst 2, 1, 0, 0), (130, .iload 5, 2, 0, 0), (132, .imul, 1, 0, 0), (133, .iload 6, 2, 0, 0), (135, .iadd, 1, 0, 0), (136, .ishl, 1, 0, 0), (137, .ior, 1, 0, 0), (138, .istore 4, 2, 0, 0), (140, .iinc 6 1, 3, 0, 0), (143, .goto (-109), 3, 0, 0), (146, .iinc 5 1, 3, 0, 0), (149, .goto (-124), 3, 0, 0), (152, .iload 4, 2, 0, 0), (154, .ireturn, 1, 0, 0)]
/-- SerialGate$Planner.restingChoices(II)I -/
def mm_M59 : mm_M := (yX5_restingChoices, cX5_restingChoices, 9, (some .int), 5, false, [], [], mm_k59)
theorem mm_d59 : mm_k59.all (fun q => mm_deq (decode cX5_restingChoices q.1) q.2.1 q.2.2.1) = true := by decide +kernel
end
section
def mm_k60 : List mm_I := [(0, .iload_n 0, 1, 0, 0), (1, .iload_n 1, 1, 0, 0), (2, .if_icmp .ne 13, 3, 0, 0), (5, .iload_n 0, 1, 0, 0), (6, .ifCond .ne 7, 3, 0, 0), (9, .iload_n 2, 1, 0, 0), (10, .goto 4, 3, 0, 0), (13, .iconst 0, 1, 0, 0), (14, .ireturn, 1, 0, 0), (15, .iload_n 0, 1, 0, 0), (16, .ifCond .ne 7, 3, 0, 0), (19, .iconst 3, 1, 0, 0), (20, .goto 5, 3, 0, 0), (23, .iload_n 3, 1, 0, 0), (24, .ineg, 1, 0, 0), (25, .ireturn, 1, 0, 0)]
/-- SerialGate$Planner.hasBy(IIII)I -/
def mm_M60 : mm_M := (yX5_hasBy, cX5_hasBy, 4, (some .int), 5, false, [], [], mm_k60)
theorem mm_d60 : mm_k60.all (fun q => mm_deq (decode cX5_hasBy q.1) q.2.1 q.2.2.1) = true := by decide +kernel
def mm_k61 : List mm_I := [(0, .iconst 1, 1, 0, 0), (1, .istore_n 3, 1, 0, 0), (2, .iconst 0, 1, 0, 0), (3, .istore 4, 2, 0, 0), (5, .aload_n 0, 1, 0, 0), (6, .getfield 25, 3, 5, 0), (9, .getfield 29, 3, 0, 0), (12, .ifCond .ne 15, 3, 0, 0), (15, .iload_n 2, 1, 0, 0), (16, .ifCond .ne 9, 3, 0, 0), (19, .sipush 10000, 3, 0, 0), (22, .goto 4, 3, 0, 0), (25, .iconst 0, 1, 0, 0), (26, .ireturn, 1, 0, 0), (27, .iconst 0, 1, 0, 0), (28, .istore 5, 2, 0, 0), (30, .iload 5, 2, 0, 0), (32, .iload_n 1, 1, 0, 0), (33, .if_icmp .ge 19, 3, 0, 0), (36, .iload_n 3, 1, 0, 0), (37, .aload_n 0, 1, 0, 0), (38, .getfield 25, 3, 5, 0), (41, .getfield 29, 3, 0, 0), (44, .imul, 1, 0, 0), (45, .istore_n 3, 1, 0, 0), (46, .iinc 5 1, 3, 0, 0), (49, .goto (-19), 3, 0, 0), (52, .iload_n 2, 1, 0, 0), (53, .istore 5, 2, 0, 0), (55, .iload 5, 2, 0, 0), (57, .iload_n 1, 1, 0, 0), (58, .if_icmp .gt 79, 3, 0, 0), (61, .iconst 1, 1, 0, 0), (62, .istore 6, 2, 0, 0), (64, .iconst 0, 1, 0, 0), (65, .istore 7, 2, 0, 0), (67, .iload 7, 2, 0, 0), (69, .iload 5, 2, 0, 0), (71, .if_icmp .ge 23, 3, 0, 0), (74, .iload 6, 2, 0, 0), (76, .iload_n 1, 1, 0, 0), (77, .iload 7, 2, 0, 0), (79, .isub, 1, 0, 0), (80, .imul, 1, 0, 0), (81, .iload 7, 2, 0, 0), (83, .iconst 1, 1, 0, 0), (84, .iadd, 1, 0, 0), (85, .idiv, 1, 0, 0), (86, .istore 6, 2, 0, 0), (88, .iinc 7 1, 3, 0, 0), (91, .goto (-24), 3, 0, 0), (94, .iload 5, 2, 0, 0), (96, .istore 7, 2, 0, 0), (98, .iload 7, 2, 0, 0), (100, .iload_n 1, 1, 0, 0), (101, .if_icmp .ge 23, 3, 0, 0), (104, .iload 6, 2, 0, 0), (106, .aload_n 0, 1, 0, 0), (107, .getfield 25, 3, 5, 0), (110, .getfield 29, 3, 0, 0), (113, .iconst 1, 1, 0, 0), (114, .isub, 1, 0, 0), (115, .imul, 1, 0, 0), (116, .istore 6, 2, 0, 0), (118, .iinc 7 1, 3, 0, 0), (121, .goto (-23), 3, 0, 0), (124, .iload 4, 2, 0, 0), (126, .iload 6, 2, 0, 0), (128, .iadd, 1, 0, 0), (129, .istore 4, 2, 0, 0), (131, .iinc 5 1, 3, 0, 0), (134, .goto (-79), 3, 0, 0), (137, .iload_n 3, 1, 0, 0), (138, .ifCond .gt 7, 3, 0, 0), (141, .iconst 0, 1, 0, 0), (142, .goto 11, 3, 0, 0), (145, .iload 4, 2, 0, 0), (147, .sipush 10000, 3, 0, 0), (150, .imul, 1, 0, 0), (151, .iload_n 3, 1, 0, 0), (152, .idiv, 1, 0, 0), (153, .ireturn, 1, 0, 0)]
/-- SerialGate$Planner.oddsOf(II)I -/
def mm_M61 : mm_M := (yX5_oddsOf, cX5_oddsOf, 8, (some .int), 5, false, [], [], mm_k61)
theorem mm_d61 : mm_k61.all (fun q => mm_deq (decode cX5_oddsOf q.1) q.2.1 q.2.2.1) = true := by decide +kernel
def mm_k62 : List mm_I := [(0, .aload_n 0, 1, 0, 0), (1, .invokespecial 3, 3, 1, 0), (4, .aload_n 0, 1, 0, 0), (5, .iconst 0, 1, 0, 0), (6, .putfield 9, 3, 6, 0), (9, .aload_n 0, 1, 0, 0), (10, .iconst 0, 1, 0, 0), (11, .putfield 15, 3, 6, 1), (14, .aload_n 0, 1, 0, 0), (15, .iconst 0, 1, 0, 0), (16, .putfield 18, 3, 6, 2), (19, .aload_n 0, 1, 0, 0), (20, .iconst 0, 1, 0, 0), (21, .putfield 21, 3, 6, 3), (24, .aload_n 0, 1, 0, 0), (25, .bipush 8, 2, 0, 0), (27, .newarray .int, 2, 0, 0), (29, .putfield 24, 3, 6, 4), (32, .aload_n 0, 1, 0, 0), (33, .bipush 8, 2, 0, 0), (35, .newarray .int, 2, 0, 0), (37, .putfield 28, 3, 6, 5), (40, .aload_n 0, 1, 0, 0), (41, .bipush 8, 2, 0, 0), (43, .newarray .int, 2, 0, 0), (45, .putfield 31, 3, 6, 6), (48, .aload_n 0, 1, 0, 0), (49, .bipush 8, 2, 0, 0), (51, .newarray .int, 2, 0, 0), (53, .putfield 34, 3, 6, 7), (56, .aload_n 0, 1, 0, 0), (57, .bipush 8, 2, 0, 0), (59, .newarray .int, 2, 0, 0), (61, .putfield 37, 3, 6, 8), (64, .aload_n 0, 1, 0, 0), (65, .bipush 8, 2, 0, 0), (67, .newarray .int, 2, 0, 0), (69, .putfield 40, 3, 6, 9), (72, .aload_n 0, 1, 0, 0), (73, .bipush 8, 2, 0, 0), (75, .newarray .int, 2, 0, 0), (77, .putfield 43, 3, 6, 10), (80, .aload_n 0, 1, 0, 0), (81, .bipush 8, 2, 0, 0), (83, .newarray .int, 2, 0, 0), (85, .putfield 46, 3, 6, 11), (88, .aload_n 0, 1, 0, 0), (89, .bipush 8, 2, 0, 0), (91, .newarray .int, 2, 0, 0), (93, .putfield 49, 3, 6, 12), (96, .aload_n 0, 1, 0, 0), (97, .bipush 8, 2, 0, 0), (99, .newarray .int, 2, 0, 0), (101, .putfield 52, 3, 6, 13), (104, .aload_n 0, 1, 0, 0), (105, .bipush 80, 2, 0, 0), (107, .newarray .int, 2, 0, 0), (109, .putfield 55, 3, 6, 14), (112, .return_, 1, 0, 0)]
/-- SerialGate$Slots.<init>()V -/
def mm_M62 : mm_M := (yX6_init, cX6_init, 1, none, 6, true, [], [], mm_k62)
theorem mm_d62 : mm_k62.all (fun q => mm_deq (decode cX6_init q.1) q.2.1 q.2.2.1) = true := by decide +kernel
def mm_k63 : List mm_I := [(0, .aload_n 0, 1, 0, 0), (1, .aload_n 1, 1, 0, 0), (2, .getfield 9, 3, 6, 0), (5, .putfield 9, 3, 6, 0), (8, .aload_n 0, 1, 0, 0), (9, .aload_n 1, 1, 0, 0), (10, .getfield 15, 3, 6, 1), (13, .putfield 15, 3, 6, 1), (16, .aload_n 0, 1, 0, 0), (17, .aload_n 1, 1, 0, 0), (18, .getfield 18, 3, 6, 2), (21, .putfield 18, 3, 6, 2), (24, .aload_n 0, 1, 0, 0), (25, .aload_n 1, 1, 0, 0), (26, .getfield 21, 3, 6, 3), (29, .putfield 21, 3, 6, 3), (32, .aload_n 1, 1, 0, 0), (33, .getfield 24, 3, 6, 4), (36, .iconst 0, 1, 0, 0), (37, .aload_n 0, 1, 0, 0), (38, .getfield 24, 3, 6, 4), (41, .iconst 0, 1, 0, 0), (42, .bipush 8, 2, 0, 0), (44, .invokestatic 58, 3, 1, 0), (47, .aload_n 1, 1, 0, 0), (48, .getfield 28, 3, 6, 5), (51, .iconst 0, 1, 0, 0), (52, .aload_n 0, 1, 0, 0), (53, .getfield 28, 3, 6, 5), (56, .iconst 0, 1, 0, 0), (57, .bipush 8, 2, 0, 0), (59, .invokestatic 58, 3, 1, 0), (62, .aload_n 1, 1, 0, 0), (63, .getfield 31, 3, 6, 6), (66, .iconst 0, 1, 0, 0), (67, .aload_n 0, 1, 0, 0), (68, .getfield 31, 3, 6, 6), (71, .iconst 0, 1, 0, 0), (72, .bipush 8, 2, 0, 0), (74, .invokestatic 58, 3, 1, 0), (77, .aload_n 1, 1, 0, 0), (78, .getfield 34, 3, 6, 7), (81, .iconst 0, 1, 0, 0), (82, .aload_n 0, 1, 0, 0), (83, .getfield 34, 3, 6, 7), (86, .iconst 0, 1, 0, 0), (87, .bipush 8, 2, 0, 0), (89, .invokestatic 58, 3, 1, 0), (92, .aload_n 1, 1, 0, 0), (93, .getfield 37, 3, 6, 8), (96, .iconst 0, 1, 0, 0), (97, .aload_n 0, 1, 0, 0), (98, .getfield 37, 3, 6, 8), (101, .iconst 0, 1, 0, 0), (102, .bipush 8, 2, 0, 0), (104, .invokestatic 58, 3, 1, 0), (107, .aload_n 1, 1, 0, 0), (108, .getfield 40, 3, 6, 9), (111, .iconst 0, 1, 0, 0), (112, .aload_n 0, 1, 0, 0), (113, .getfield 40, 3, 6, 9), (116, .iconst 0, 1, 0, 0), (117, .bipush 8, 2, 0, 0), (119, .invokestatic 58, 3, 1, 0), (122, .aload_n 1, 1, 0, 0), (123, .getfield 43, 3, 6, 10), (126, .iconst 0, 1, 0, 0), (127, .aload_n 0, 1, 0, 0), (128, .getfield 43, 3, 6, 10), (131, .iconst 0, 1, 0, 0), (132, .bipush 8, 2, 0, 0), (134, .invokestatic 58, 3, 1, 0), (137, .aload_n 1, 1, 0, 0), (138, .getfield 46, 3, 6, 11), (141, .iconst 0, 1, 0, 0), (142, .aload_n 0, 1, 0, 0), (143, .getfield 46, 3, 6, 11), (146, .iconst 0, 1, 0, 0), (147, .bipush 8, 2, 0, 0), (149, .invokestatic 58, 3, 1, 0), (152, .aload_n 1, 1, 0, 0), (153, .getfield 49, 3, 6, 12), (156, .iconst 0, 1, 0, 0), (157, .aload_n 0, 1, 0, 0), (158, .getfield 49, 3, 6, 12), (161, .iconst 0, 1, 0, 0), (162, .bipush 8, 2, 0, 0), (164, .invokestatic 58, 3, 1, 0), (167, .aload_n 1, 1, 0, 0), (168, .getfield 52, 3, 6, 13), (171, .iconst 0, 1, 0, 0), (172, .aload_n 0, 1, 0, 0), (173, .getfield 52, 3, 6, 13), (176, .iconst 0, 1, 0, 0), (177, .bipush 8, 2, 0, 0), (179, .invokestatic 58, 3, 1, 0), (182, .aload_n 1, 1, 0, 0), (183, .getfield 55, 3, 6, 14), (186, .iconst 0, 1, 0, 0), (187, .aload_n 0, 1, 0, 0), (188, .getfield 55, 3, 6, 14), (191, .iconst 0, 1, 0, 0), (192, .bipush 80, 2, 0, 0), (194, .invokestatic 58, 3, 1, 0), (197, .return_, 1, 0, 0)]
/-- SerialGate$Slots.copyFrom(LSerialGate$Slots;)V -/
def mm_M63 : mm_M := (yX6_copyFrom, cX6_copyFrom, 2, none, 6, false, [], [], mm_k63)
theorem mm_d63 : mm_k63.all (fun q => mm_deq (decode cX6_copyFrom q.1) q.2.1 q.2.2.1) = true := by decide +kernel
def mm_k64 : List mm_I := [(0, .aload_n 0, 1, 0, 0), (1, .getfield 9, 3, 6, 0), (4, .iload_n 1, 1, 0, 0), (5, .ishr, 1, 0, 0), (6, .iconst 1, 1, 0, 0), (7, .iand, 1, 0, 0), (8, .ifCond .eq 7, 3, 0, 0), (11, .iconst 1, 1, 0, 0), (12, .goto 4, 3, 0, 0), (15, .iconst 0, 1, 0, 0), (16, .ireturn, 1, 0, 0)]
/-- SerialGate$Slots.isRunning(I)Z -/
def mm_M64 : mm_M := (yX6_isRunning, cX6_isRunning, 2, (some .boolean), 6, false, [], [], mm_k64)
theorem mm_d64 : mm_k64.all (fun q => mm_deq (decode cX6_isRunning q.1) q.2.1 q.2.2.1) = true := by decide +kernel
def mm_k65 : List mm_I := [(0, .aload_n 0, 1, 0, 0), (1, .getfield 9, 3, 6, 0), (4, .aload_n 0, 1, 0, 0), (5, .getfield 15, 3, 6, 1), (8, .ior, 1, 0, 0), (9, .iload_n 1, 1, 0, 0), (10, .ishr, 1, 0, 0), (11, .iconst 1, 1, 0, 0), (12, .iand, 1, 0, 0), (13, .ifCond .eq 7, 3, 0, 0), (16, .iconst 1, 1, 0, 0), (17, .goto 4, 3, 0, 0), (20, .iconst 0, 1, 0, 0), (21, .ireturn, 1, 0, 0)]
/-- SerialGate$Slots.isUsed(I)Z -/
def mm_M65 : mm_M := (yX6_isUsed, cX6_isUsed, 2, (some .boolean), 6, false, [], [], mm_k65)
theorem mm_d65 : mm_k65.all (fun q => mm_deq (decode cX6_isUsed q.1) q.2.1 q.2.2.1) = true := by decide +kernel
def mm_k66 : List mm_I := [(0, .aload_n 0, 1, 0, 0), (1, .getfield 18, 3, 6, 2), (4, .iload_n 1, 1, 0, 0), (5, .ishr, 1, 0, 0), (6, .iconst 1, 1, 0, 0), (7, .iand, 1, 0, 0), (8, .ifCond .eq 7, 3, 0, 0), (11, .iconst 1, 1, 0, 0), (12, .goto 4, 3, 0, 0), (15, .iconst 0, 1, 0, 0), (16, .ireturn, 1, 0, 0)]
/-- SerialGate$Slots.isOnly(I)Z -/
def mm_M66 : mm_M := (yX6_isOnly, cX6_isOnly, 2, (some .boolean), 6, false, [], [], mm_k66)
theorem mm_d66 : mm_k66.all (fun q => mm_deq (decode cX6_isOnly q.1) q.2.1 q.2.2.1) = true := by decide +kernel
def mm_k67 : List mm_I := [(0, .aload_n 0, 1, 0, 0), (1, .getfield 21, 3, 6, 3), (4, .iload_n 1, 1, 0, 0), (5, .ishr, 1, 0, 0), (6, .iconst 1, 1, 0, 0), (7, .iand, 1, 0, 0), (8, .ifCond .eq 7, 3, 0, 0), (11, .iconst 1, 1, 0, 0), (12, .goto 4, 3, 0, 0), (15, .iconst 0, 1, 0, 0), (16, .ireturn, 1, 0, 0)]
/-- SerialGate$Slots.isSpoilt(I)Z -/
def mm_M67 : mm_M := (yX6_isSpoilt, cX6_isSpoilt, 2, (some .boolean), 6, false, [], [], mm_k67)
theorem mm_d67 : mm_k67.all (fun q => mm_deq (decode cX6_isSpoilt q.1) q.2.1 q.2.2.1) = true := by decide +kernel
def mm_k68 : List mm_I := [(0, .aload_n 0, 1, 0, 0), (1, .getfield 9, 3, 6, 0), (4, .aload_n 0, 1, 0, 0), (5, .getfield 18, 3, 6, 2), (8, .iand, 1, 0, 0), (9, .aload_n 0, 1, 0, 0), (10, .getfield 21, 3, 6, 3), (13, .iconst (-1), 1, 0, 0), (14, .ixor, 1, 0, 0), (15, .iand, 1, 0, 0), (16, .iconst 1, 1, 0, 0), (17, .iload_n 1, 1, 0, 0), (18, .ishl, 1, 0, 0), (19, .iand, 1, 0, 0), (20, .ifCond .ne 5, 3, 0, 0), (23, .iconst 0, 1, 0, 0), (24, .ireturn, 1, 0, 0), (25, .aload_n 0, 1, 0, 0), (26, .getfield 9, 3, 6, 0), (29, .aload_n 0, 1, 0, 0), (30, .getfield 18, 3, 6, 2), (33, .iconst (-1), 1, 0, 0), (34, .ixor, 1, 0, 0), (35, .iand, 1, 0, 0), (36, .istore_n 2, 1, 0, 0), (37, .iconst 0, 1, 0, 0), (38, .istore_n 3, 1, 0, 0), (39, .iload_n 3, 1, 0, 0), (40, .bipush 8, 2, 0, 0), (42, .if_icmp .ge 34, 3, 0, 0), (45, .iload_n 2, 1, 0, 0), (46, .iload_n 3, 1, 0, 0), (47, .ishr, 1, 0, 0), (48, .iconst 1, 1, 0, 0), (49, .iand, 1, 0, 0), (50, .ifCond .eq 20, 3, 0, 0), (53, .aload_n 0, 1, 0, 0), (54, .getfield 28, 3, 6, 5), (57, .iload_n 3, 1, 0, 0), (58, .iaload, 1, 0, 0), (59, .aload_n 0, 1, 0, 0), (60, .getfield 28, 3, 6, 5), (63, .iload_n 1, 1, 0, 0), (64, .iaload, 1, 0, 0), (65, .if_icmp .ge 5, 3, 0, 0), (68, .iconst 0, 1, 0, 0), (69, .ireturn, 1, 0, 0), (70, .iinc 3 1, 3, 0, 0), (73, .goto (-34), 3, 0, 0), (76, .iconst 1, 1, 0, 0), (77, .ireturn, 1, 0, 0)]
/-- SerialGate$Slots.isSafe(I)Z -/
def mm_M68 : mm_M := (yX6_isSafe, cX6_isSafe, 4, (some .boolean), 6, false, [], [], mm_k68)
theorem mm_d68 : mm_k68.all (fun q => mm_deq (decode cX6_isSafe q.1) q.2.1 q.2.2.1) = true := by decide +kernel
def mm_k69 : List mm_I := [(0, .aload_n 0, 1, 0, 0), (1, .getfield 52, 3, 6, 13), (4, .iload_n 1, 1, 0, 0), (5, .iaload, 1, 0, 0), (6, .ifCond .ne 12, 3, 0, 0), (9, .aload_n 0, 1, 0, 0), (10, .getfield 46, 3, 6, 11), (13, .iload_n 1, 1, 0, 0), (14, .iaload, 1, 0, 0), (15, .ifCond .le 25, 3, 0, 0), (18, .aload_n 0, 1, 0, 0), (19, .getfield 49, 3, 6, 12), (22, .iload_n 1, 1, 0, 0), (23, .iaload, 1, 0, 0), (24, .ifCond .ne 12, 3, 0, 0), (27, .aload_n 0, 1, 0, 0), (28, .getfield 43, 3, 6, 10), (31, .iload_n 1, 1, 0, 0), (32, .iaload, 1, 0, 0), (33, .ifCond .le 7, 3, 0, 0), (36, .iconst 1, 1, 0, 0), (37, .goto 4, 3, 0, 0), (40, .iconst 0, 1, 0, 0), (41, .ireturn, 1, 0, 0)]
/-- SerialGate$Slots.isPivot(I)Z -/
def mm_M69 : mm_M := (yX6_isPivot, cX6_isPivot, 2, (some .boolean), 6, false, [], [], mm_k69)
theorem mm_d69 : mm_k69.all (fun q => mm_deq (decode cX6_isPivot q.1) q.2.1 q.2.2.1) = true := by decide +kernel
def mm_k70 : List mm_I := [(0, .iconst 0, 1, 0, 0), (1, .istore_n 1, 1, 0, 0), (2, .iload_n 1, 1, 0, 0), (3, .bipush 8, 2, 0, 0), (5, .if_icmp .ge 19, 3, 0, 0), (8, .aload_n 0, 1, 0, 0), (9, .iload_n 1, 1, 0, 0), (10, .invokevirtual 64, 3, 0, 65), (13, .ifCond .ne 5, 3, 0, 0), (16, .iload_n 1, 1, 0, 0), (17, .ireturn, 1, 0, 0), (18, .iinc 1 1, 3, 0, 0), (21, .goto (-19), 3, 0, 0), (24, .iconst (-1), 1, 0, 0), (25, .ireturn, 1, 0, 0)]
/-- SerialGate$Slots.leastFree()I -/
def mm_M70 : mm_M := (yX6_leastFree, cX6_leastFree, 2, (some .int), 6, false, [], [], mm_k70)
theorem mm_d70 : mm_k70.all (fun q => mm_deq (decode cX6_leastFree q.1) q.2.1 q.2.2.1) = true := by decide +kernel
def mm_k71 : List mm_I := [(0, .iconst 0, 1, 0, 0), (1, .istore_n 2, 1, 0, 0), (2, .iload_n 2, 1, 0, 0), (3, .bipush 8, 2, 0, 0), (5, .if_icmp .ge 32, 3, 0, 0), (8, .aload_n 0, 1, 0, 0), (9, .getfield 9, 3, 6, 0), (12, .iload_n 2, 1, 0, 0), (13, .ishr, 1, 0, 0), (14, .iconst 1, 1, 0, 0), (15, .iand, 1, 0, 0), (16, .ifCond .eq 15, 3, 0, 0), (19, .aload_n 0, 1, 0, 0), (20, .getfield 24, 3, 6, 4), (23, .iload_n 2, 1, 0, 0), (24, .iaload, 1, 0, 0), (25, .iload_n 1, 1, 0, 0), (26, .if_icmp .ne 5, 3, 0, 0), (29, .iload_n 2, 1, 0, 0), (30, .ireturn, 1, 0, 0), (31, .iinc 2 1, 3, 0, 0), (34, .goto (-32), 3, 0, 0), (37, .iconst (-1), 1, 0, 0), (38, .ireturn, 1, 0, 0)]
/-- SerialGate$Slots.runningOf(I)I -/
def mm_M71 : mm_M := (yX6_runningOf, cX6_runningOf, 3, (some .int), 6, false, [], [], mm_k71)
theorem mm_d71 : mm_k71.all (fun q => mm_deq (decode cX6_runningOf q.1) q.2.1 q.2.2.1) = true := by decide +kernel
def mm_k72 : List mm_I := [(0, .iconst 0, 1, 0, 0), (1, .istore_n 2, 1, 0, 0), (2, .iload_n 2, 1, 0, 0), (3, .bipush 8, 2, 0, 0), (5, .if_icmp .ge 35, 3, 0, 0), (8, .aload_n 0, 1, 0, 0), (9, .getfield 9, 3, 6, 0), (12, .iload_n 2, 1, 0, 0), (13, .ishr, 1, 0, 0), (14, .iconst 1, 1, 0, 0), (15, .iand, 1, 0, 0), (16, .ifCond .eq 18, 3, 0, 0), (19, .aload_n 0, 1, 0, 0), (20, .getfield 40, 3, 6, 9), (23, .iload_n 2, 1, 0, 0), (24, .iaload, 1, 0, 0), (25, .iload_n 1, 1, 0, 0), (26, .ishr, 1, 0, 0), (27, .iconst 1, 1, 0, 0), (28, .iand, 1, 0, 0), (29, .ifCond .eq 5, 3, 0, 0), (32, .iload_n 2, 1, 0, 0), (33, .ireturn, 1, 0, 0), (34, .iinc 2 1, 3, 0, 0), (37, .goto (-35), 3, 0, 0), (40, .iconst (-1), 1, 0, 0), (41, .ireturn, 1, 0, 0)]
/-- SerialGate$Slots.writerOf(I)I -/
def mm_M72 : mm_M := (yX6_writerOf, cX6_writerOf, 3, (some .int), 6, false, [], [], mm_k72)
theorem mm_d72 : mm_k72.all (fun q => mm_deq (decode cX6_writerOf q.1) q.2.1 q.2.2.1) = true := by decide +kernel
def mm_k73 : List mm_I := [(0, .aload_n 0, 1, 0, 0), (1, .iload_n 2, 1, 0, 0), (2, .invokevirtual 68, 3, 0, 72), (5, .istore_n 3, 1, 0, 0), (6, .iload_n 3, 1, 0, 0), (7, .iconst (-1), 1, 0, 0), (8, .if_icmp .eq 12, 3, 0, 0), (11, .iload_n 3, 1, 0, 0), (12, .iload_n 1, 1, 0, 0), (13, .if_icmp .eq 7, 3, 0, 0), (16, .iconst 1, 1, 0, 0), (17, .goto 4, 3, 0, 0), (20, .iconst 0, 1, 0, 0), (21, .ireturn, 1, 0, 0)]
/-- SerialGate$Slots.waitsFor(II)Z -/
def mm_M73 : mm_M := (yX6_waitsFor, cX6_waitsFor, 4, (some .boolean), 6, false, [], [], mm_k73)
theorem mm_d73 : mm_k73.all (fun q => mm_deq (decode cX6_waitsFor q.1) q.2.1 q.2.2.1) = true := by decide +kernel
def mm_k74 : List mm_I := [(0, .ldc 74, 2, 2147483647, 0), (2, .istore_n 1, 1, 0, 0), (3, .iconst 0, 1, 0, 0), (4, .istore_n 2, 1, 0, 0), (5, .iload_n 2, 1, 0, 0), (6, .bipush 8, 2, 0, 0), (8, .if_icmp .ge 37, 3, 0, 0), (11, .aload_n 0, 1, 0, 0), (12, .getfield 9, 3, 6, 0), (15, .iload_n 2, 1, 0, 0), (16, .ishr, 1, 0, 0), (17, .iconst 1, 1, 0, 0), (18, .iand, 1, 0, 0), (19, .ifCond .eq 20, 3, 0, 0), (22, .aload_n 0, 1, 0, 0), (23, .getfield 28, 3, 6, 5), (26, .iload_n 2, 1, 0, 0), (27, .iaload, 1, 0, 0), (28, .iload_n 1, 1, 0, 0), (29, .if_icmp .ge 10, 3, 0, 0), (32, .aload_n 0, 1, 0, 0), (33, .getfield 28, 3, 6, 5), (36, .iload_n 2, 1, 0, 0), (37, .iaload, 1, 0, 0), (38, .istore_n 1, 1, 0, 0), (39, .iinc 2 1, 3, 0, 0), (42, .goto (-37), 3, 0, 0), (45, .iload_n 1, 1, 0, 0), (46, .ireturn, 1, 0, 0)]
/-- SerialGate$Slots.leastBegan()I -/
def mm_M74 : mm_M := (yX6_leastBegan, cX6_leastBegan, 3, (some .int), 6, false, [], [], mm_k74)
theorem mm_d74 : mm_k74.all (fun q => mm_deq (decode cX6_leastBegan q.1) q.2.1 q.2.2.1) = true := by decide +kernel
def mm_k75 : List mm_I := [(0, .iconst (-1), 1, 0, 0), (1, .istore_n 1, 1, 0, 0), (2, .iconst 0, 1, 0, 0), (3, .istore_n 2, 1, 0, 0), (4, .iload_n 2, 1, 0, 0), (5, .bipush 8, 2, 0, 0), (7, .if_icmp .ge 42, 3, 0, 0), (10, .aload_n 0, 1, 0, 0), (11, .getfield 15, 3, 6, 1), (14, .iload_n 2, 1, 0, 0), (15, .ishr, 1, 0, 0), (16, .iconst 1, 1, 0, 0), (17, .iand, 1, 0, 0), (18, .ifCond .eq 25, 3, 0, 0), (21, .iload_n 1, 1, 0, 0), (22, .iconst (-1), 1, 0, 0), (23, .if_icmp .eq 18, 3, 0, 0), (26, .aload_n 0, 1, 0, 0), (27, .getfield 31, 3, 6, 6), (30, .iload_n 2, 1, 0, 0), (31, .iaload, 1, 0, 0), (32, .aload_n 0, 1, 0, 0), (33, .getfield 31, 3, 6, 6), (36, .iload_n 1, 1, 0, 0), (37, .iaload, 1, 0, 0), (38, .if_icmp .ge 5, 3, 0, 0), (41, .iload_n 2, 1, 0, 0), (42, .istore_n 1, 1, 0, 0), (43, .iinc 2 1, 3, 0, 0), (46, .goto (-42), 3, 0, 0), (49, .iload_n 1, 1, 0, 0), (50, .ireturn, 1, 0, 0)]
/-- SerialGate$Slots.oldestFinished()I -/
def mm_M75 : mm_M := (yX6_oldestFinished, cX6_oldestFinished, 3, (some .int), 6, false, [], [], mm_k75)
theorem mm_d75 : mm_k75.all (fun q => mm_deq (decode cX6_oldestFinished q.1) q.2.1 q.2.2.1) = true := by decide +kernel
def mm_k76 : List mm_I := [(0, .aload_n 0, 1, 0, 0), (1, .getfield 43, 3, 6, 10), (4, .iload_n 1, 1, 0, 0), (5, .iaload, 1, 0, 0), (6, .istore_n 2, 1, 0, 0), (7, .aload_n 0, 1, 0, 0), (8, .getfield 49, 3, 6, 12), (11, .iload_n 1, 1, 0, 0), (12, .iaload, 1, 0, 0), (13, .aload_n 0, 1, 0, 0), (14, .getfield 15, 3, 6, 1), (17, .iand, 1, 0, 0), (18, .istore_n 3, 1, 0, 0), (19, .iconst 0, 1, 0, 0), (20, .istore 4, 2, 0, 0), (22, .iload 4, 2, 0, 0), (24, .bipush 8, 2, 0, 0), (26, .if_icmp .ge 45, 3, 0, 0), (29, .iload_n 3, 1, 0, 0), (30, .ifCond .eq 41, 3, 0, 0), (33, .iload_n 3, 1, 0, 0), (34, .iload 4, 2, 0, 0), (36, .ishr, 1, 0, 0), (37, .iconst 1, 1, 0, 0), (38, .iand, 1, 0, 0), (39, .ifCond .eq 26, 3, 0, 0), (42, .iload_n 2, 1, 0, 0), (43, .ifCond .eq 14, 3, 0, 0), (46, .aload_n 0, 1, 0, 0), (47, .getfield 31, 3, 6, 6), (50, .iload 4, 2, 0, 0), (52, .iaload, 1, 0, 0), (53, .iload_n 2, 1, 0, 0), (54, .if_icmp .ge 11, 3, 0, 0), (57, .aload_n 0, 1, 0, 0), (58, .getfield 31, 3, 6, 6), (61, .iload 4, 2, 0, 0), (63, .iaload, 1, 0, 0), (64, .istore_n 2, 1, 0, 0), (65, .iinc 4 1, 3, 0, 0), (68, .goto (-46), 3, 0, 0), (71, .iload_n 2, 1, 0, 0), (72, .ireturn, 1, 0, 0)]
/-- SerialGate$Slots.firstOf(I)I -/
def mm_M76 : mm_M := (yX6_firstOf, cX6_firstOf, 5, (some .int), 6, false, [], [], mm_k76)
theorem mm_d76 : mm_k76.all (fun q => mm_deq (decode cX6_firstOf q.1) q.2.1 q.2.2.1) = true := by decide +kernel
def mm_k77 : List mm_I := [(0, .iconst 0, 1, 0, 0), (1, .istore_n 1, 1, 0, 0), (2, .iconst 0, 1, 0, 0), (3, .istore_n 2, 1, 0, 0), (4, .iload_n 2, 1, 0, 0), (5, .bipush 8, 2, 0, 0), (7, .if_icmp .ge 21, 3, 0, 0), (10, .iload_n 1, 1, 0, 0), (11, .aload_n 0, 1, 0, 0), (12, .getfield 49, 3, 6, 12), (15, .iload_n 2, 1, 0, 0), (16, .iaload, 1, 0, 0), (17, .invokestatic 75, 3, 0, 343), (20, .iadd, 1, 0, 0), (21, .istore_n 1, 1, 0, 0), (22, .iinc 2 1, 3, 0, 0), (25, .goto (-21), 3, 0, 0), (28, .iload_n 1, 1, 0, 0), (29, .ireturn, 1, 0, 0)]
/-- SerialGate$Slots.edgeCount()I -/
def mm_M77 : mm_M := (yX6_edgeCount, cX6_edgeCount, 3, (some .int), 6, false, [], [], mm_k77)
theorem mm_d77 : mm_k77.all (fun q => mm_deq (decode cX6_edgeCount q.1) q.2.1 q.2.2.1) = true := by decide +kernel
def mm_k78 : List mm_I := [(0, .aload_n 0, 1, 0, 0), (1, .dup, 1, 0, 0), (2, .getfield 9, 3, 6, 0), (5, .iconst 1, 1, 0, 0), (6, .iload_n 1, 1, 0, 0), (7, .ishl, 1, 0, 0), (8, .ior, 1, 0, 0), (9, .putfield 9, 3, 6, 0), (12, .iload_n 3, 1, 0, 0), (13, .ifCond .eq 15, 3, 0, 0), (16, .aload_n 0, 1, 0, 0), (17, .dup, 1, 0, 0), (18, .getfield 18, 3, 6, 2), (21, .iconst 1, 1, 0, 0), (22, .iload_n 1, 1, 0, 0), (23, .ishl, 1, 0, 0), (24, .ior, 1, 0, 0), (25, .putfield 18, 3, 6, 2), (28, .aload_n 0, 1, 0, 0), (29, .getfield 24, 3, 6, 4), (32, .iload_n 1, 1, 0, 0), (33, .iload_n 2, 1, 0, 0), (34, .iastore, 1, 0, 0), (35, .aload_n 0, 1, 0, 0), (36, .getfield 28, 3, 6, 5), (39, .iload_n 1, 1, 0, 0), (40, .iload 4, 2, 0, 0), (42, .iastore, 1, 0, 0), (43, .aload_n 0, 1, 0, 0), (44, .getfield 31, 3, 6, 6), (47, .iload_n 1, 1, 0, 0), (48, .iconst 0, 1, 0, 0), (49, .iastore, 1, 0, 0), (50, .aload_n 0, 1, 0, 0), (51, .getfield 34, 3, 6, 7), (54, .iload_n 1, 1, 0, 0), (55, .iconst 0, 1, 0, 0), (56, .iastore, 1, 0, 0), (57, .aload_n 0, 1, 0, 0), (58, .getfield 37, 3, 6, 8), (61, .iload_n 1, 1, 0, 0), (62, .iconst 0, 1, 0, 0), (63, .iastore, 1, 0, 0), (64, .aload_n 0, 1, 0, 0), (65, .getfield 40, 3, 6, 9), (68, .iload_n 1, 1, 0, 0), (69, .iconst 0, 1, 0, 0), (70, .iastore, 1, 0, 0), (71, .aload_n 0, 1, 0, 0), (72, .getfield 43, 3, 6, 10), (75, .iload_n 1, 1, 0, 0), (76, .iconst 0, 1, 0, 0), (77, .iastore, 1, 0, 0), (78, .aload_n 0, 1, 0, 0), (79, .getfield 46, 3, 6, 11), (82, .iload_n 1, 1, 0, 0), (83, .iconst 0, 1, 0, 0), (84, .iastore, 1, 0, 0), (85, .return_, 1, 0, 0)]
/-- SerialGate$Slots.open(IIZI)V -/
def mm_M78 : mm_M := (yX6_open, cX6_open, 5, none, 6, false, [], [], mm_k78)
theorem mm_d78 : mm_k78.all (fun q => mm_deq (decode cX6_open q.1) q.2.1 q.2.2.1) = true := by decide +kernel
def mm_k79 : List mm_I := [(0, .aload_n 0, 1, 0, 0), (1, .dup, 1, 0, 0), (2, .getfield 9, 3, 6, 0), (5, .iconst 1, 1, 0, 0), (6, .iload_n 1, 1, 0, 0), (7, .ishl, 1, 0, 0), (8, .iconst (-1), 1, 0, 0), (9, .ixor, 1, 0, 0), (10, .iand, 1, 0, 0), (11, .putfield 9, 3, 6, 0), (14, .aload_n 0, 1, 0, 0), (15, .dup, 1, 0, 0), (16, .getfield 15, 3, 6, 1), (19, .iconst 1, 1, 0, 0), (20, .iload_n 1, 1, 0, 0), (21, .ishl, 1, 0, 0), (22, .ior, 1, 0, 0), (23, .putfield 15, 3, 6, 1), (26, .aload_n 0, 1, 0, 0), (27, .getfield 31, 3, 6, 6), (30, .iload_n 1, 1, 0, 0), (31, .iload_n 2, 1, 0, 0), (32, .iastore, 1, 0, 0), (33, .return_, 1, 0, 0)]
/-- SerialGate$Slots.close(II)V -/
def mm_M79 : mm_M := (yX6_close, cX6_close, 3, none, 6, false, [], [], mm_k79)
theorem mm_d79 : mm_k79.all (fun q => mm_deq (decode cX6_close q.1) q.2.1 q.2.2.1) = true := by decide +kernel
def mm_k80 : List mm_I := [(0, .iconst 1, 1, 0, 0), (1, .iload_n 1, 1, 0, 0), (2, .ishl, 1, 0, 0), (3, .iconst (-1), 1, 0, 0), (4, .ixor, 1, 0, 0), (5, .istore_n 2, 1, 0, 0), (6, .aload_n 0, 1, 0, 0), (7, .dup, 1, 0, 0), (8, .getfield 9, 3, 6, 0), (11, .iload_n 2, 1, 0, 0), (12, .iand, 1, 0, 0), (13, .putfield 9, 3, 6, 0), (16, .aload_n 0, 1, 0, 0), (17, .dup, 1, 0, 0), (18, .getfield 15, 3, 6, 1), (21, .iload_n 2, 1, 0, 0), (22, .iand, 1, 0, 0), (23, .putfield 15, 3, 6, 1), (26, .aload_n 0, 1, 0, 0), (27, .dup, 1, 0, 0), (28, .getfield 18, 3, 6, 2), (31, .iload_n 2, 1, 0, 0), (32, .iand, 1, 0, 0), (33, .putfield 18, 3, 6, 2), (36, .aload_n 0, 1, 0, 0), (37, .dup, 1, 0, 0), (38, .getfield 21, 3, 6, 3), (41, .iload_n 2, 1, 0, 0), (42, .iand, 1, 0, 0), (43, .putfield 21, 3, 6, 3), (46, .iconst 0, 1, 0, 0), (47, .istore_n 3, 1, 0, 0), (48, .iload_n 3, 1, 0, 0), (49, .bipush 8, 2, 0, 0), (51, .if_icmp .ge 29, 3, 0, 0), (54, .aload_n 0, 1, 0, 0), (55, .getfield 49, 3, 6, 12), (58, .iload_n 3, 1, 0, 0), (59, .dup2, 1, 0, 0), (60, .iaload, 1, 0, 0), (61, .iload_n 2, 1, 0, 0), (62, .iand, 1, 0, 0), (63, .iastore, 1, 0, 0), (64, .aload_n 0, 1, 0, 0), (65, .getfield 52, 3, 6, 13), (68, .iload_n 3, 1, 0, 0), (69, .dup2, 1, 0, 0), (70, .iaload, 1, 0, 0), (71, .iload_n 2, 1, 0, 0), (72, .iand, 1, 0, 0), (73, .iastore, 1, 0, 0), (74, .iinc 3 1, 3, 0, 0), (77, .goto (-29), 3, 0, 0), (80, .aload_n 0, 1, 0, 0), (81, .getfield 49, 3, 6, 12), (84, .iload_n 1, 1, 0, 0), (85, .iconst 0, 1, 0, 0), (86, .iastore, 1, 0, 0), (87, .aload_n 0, 1, 0, 0), (88, .getfield 52, 3, 6, 13), (91, .iload_n 1, 1, 0, 0), (92, .iconst 0, 1, 0, 0), (93, .iastore, 1, 0, 0), (94, .return_, 1, 0, 0)]
/-- SerialGate$Slots.free(I)V -/
def mm_M80 : mm_M := (yX6_free, cX6_free, 4, none, 6, false, [], [], mm_k80)
theorem mm_d80 : mm_k80.all (fun q => mm_deq (decode cX6_free q.1) q.2.1 q.2.2.1) = true := by decide +kernel
def mm_k81 : List mm_I := [(0, .aload_n 0, 1, 0, 0), (1, .getfield 31, 3, 6, 6), (4, .iload_n 1, 1, 0, 0), (5, .iaload, 1, 0, 0), (6, .istore_n 2, 1, 0, 0), (7, .iconst 0, 1, 0, 0), (8, .istore_n 3, 1, 0, 0), (9, .iload_n 3, 1, 0, 0), (10, .bipush 8, 2, 0, 0), (12, .if_icmp .ge 77, 3, 0, 0), (15, .aload_n 0, 1, 0, 0), (16, .getfield 52, 3, 6, 13), (19, .iload_n 1, 1, 0, 0), (20, .iaload, 1, 0, 0), (21, .iload_n 3, 1, 0, 0), (22, .ishr, 1, 0, 0), (23, .iconst 1, 1, 0, 0), (24, .iand, 1, 0, 0), (25, .ifCond .eq 29, 3, 0, 0), (28, .aload_n 0, 1, 0, 0), (29, .getfield 43, 3, 6, 10), (32, .iload_n 3, 1, 0, 0), (33, .iaload, 1, 0, 0), (34, .ifCond .eq 13, 3, 0, 0), (37, .aload_n 0, 1, 0, 0), (38, .getfield 43, 3, 6, 10), (41, .iload_n 3, 1, 0, 0), (42, .iaload, 1, 0, 0), (43, .iload_n 2, 1, 0, 0), (44, .if_icmp .le 10, 3, 0, 0), (47, .aload_n 0, 1, 0, 0), (48, .getfield 43, 3, 6, 10), (51, .iload_n 3, 1, 0, 0), (52, .iload_n 2, 1, 0, 0), (53, .iastore, 1, 0, 0), (54, .aload_n 0, 1, 0, 0), (55, .getfield 49, 3, 6, 12), (58, .iload_n 1, 1, 0, 0), (59, .iaload, 1, 0, 0), (60, .iload_n 3, 1, 0, 0), (61, .ishr, 1, 0, 0), (62, .iconst 1, 1, 0, 0), (63, .iand, 1, 0, 0), (64, .ifCond .eq 19, 3, 0, 0), (67, .aload_n 0, 1, 0, 0), (68, .getfield 46, 3, 6, 11), (71, .iload_n 3, 1, 0, 0), (72, .aload_n 0, 1, 0, 0), (73, .getfield 46, 3, 6, 11), (76, .iload_n 3, 1, 0, 0), (77, .iaload, 1, 0, 0), (78, .iload_n 2, 1, 0, 0), (79, .invokestatic 78, 3, 0, 344), (82, .iastore, 1, 0, 0), (83, .iinc 3 1, 3, 0, 0), (86, .goto (-77), 3, 0, 0), (89, .aload_n 0, 1, 0, 0), (90, .iload_n 1, 1, 0, 0), (91, .invokevirtual 84, 3, 0, 80), (94, .return_, 1, 0, 0)]
/-- SerialGate$Slots.leave(I)V -/
def mm_M81 : mm_M := (yX6_leave, cX6_leave, 4, none, 6, false, [], [], mm_k81)
theorem mm_d81 : mm_k81.all (fun q => mm_deq (decode cX6_leave q.1) q.2.1 q.2.2.1) = true := by decide +kernel
def mm_k82 : List mm_I := [(0, .iload_n 1, 1, 0, 0), (1, .iload_n 2, 1, 0, 0), (2, .if_icmp .eq 44, 3, 0, 0), (5, .aload_n 0, 1, 0, 0), (6, .getfield 9, 3, 6, 0), (9, .iload_n 1, 1, 0, 0), (10, .ishr, 1, 0, 0), (11, .iconst 1, 1, 0, 0), (12, .iand, 1, 0, 0), (13, .ifCond .ne 29, 3, 0, 0), (16, .aload_n 0, 1, 0, 0), (17, .getfield 15, 3, 6, 1), (20, .iload_n 1, 1, 0, 0), (21, .ishr, 1, 0, 0), (22, .iconst 1, 1, 0, 0), (23, .iand, 1, 0, 0), (24, .ifCond .eq 22, 3, 0, 0), (27, .aload_n 0, 1, 0, 0), (28, .getfield 31, 3, 6, 6), (31, .iload_n 1, 1, 0, 0), (32, .iaload, 1, 0, 0), (33, .aload_n 0, 1, 0, 0), (34, .getfield 28, 3, 6, 5), (37, .iload_n 2, 1, 0, 0), (38, .iaload, 1, 0, 0), (39, .if_icmp .le 7, 3, 0, 0), (42, .iconst 1, 1, 0, 0), (43, .goto 4, 3, 0, 0), (46, .iconst 0, 1, 0, 0), (47, .ireturn, 1, 0, 0)]
/-- SerialGate$Slots.isConcurrent(II)Z -/
def mm_M82 : mm_M := (yX6_isConcurrent, cX6_isConcurrent, 3, (some .boolean), 6, false, [], [], mm_k82)
theorem mm_d82 : mm_k82.all (fun q => mm_deq (decode cX6_isConcurrent q.1) q.2.1 q.2.2.1) = true := by decide +kernel
def mm_k83 : List mm_I := [(0, .iconst 0, 1, 0, 0), (1, .istore_n 3, 1, 0, 0), (2, .iload_n 3, 1, 0, 0), (3, .bipush 8, 2, 0, 0), (5, .if_icmp .ge 53, 3, 0, 0), (8, .aload_n 0, 1, 0, 0), (9, .getfield 40, 3, 6, 9), (12, .iload_n 3, 1, 0, 0), (13, .iaload, 1, 0, 0), (14, .iload_n 2, 1, 0, 0), (15, .iand, 1, 0, 0), (16, .ifCond .eq 36, 3, 0, 0), (19, .aload_n 0, 1, 0, 0), (20, .iload_n 3, 1, 0, 0), (21, .iload_n 1, 1, 0, 0), (22, .invokevirtual 88, 3, 0, 82), (25, .ifCond .eq 27, 3, 0, 0), (28, .aload_n 0, 1, 0, 0), (29, .getfield 49, 3, 6, 12), (32, .iload_n 1, 1, 0, 0), (33, .dup2, 1, 0, 0), (34, .iaload, 1, 0, 0), (35, .iconst 1, 1, 0, 0), (36, .iload_n 3, 1, 0, 0), (37, .ishl, 1, 0, 0), (38, .ior, 1, 0, 0), (39, .iastore, 1, 0, 0), (40, .aload_n 0, 1, 0, 0), (41, .getfield 52, 3, 6, 13), (44, .iload_n 3, 1, 0, 0), (45, .dup2, 1, 0, 0), (46, .iaload, 1, 0, 0), (47, .iconst 1, 1, 0, 0), (48, .iload_n 1, 1, 0, 0), (49, .ishl, 1, 0, 0), (50, .ior, 1, 0, 0), (51, .iastore, 1, 0, 0), (52, .iinc 3 1, 3, 0, 0), (55, .goto (-53), 3, 0, 0), (58, .return_, 1, 0, 0)]
/-- SerialGate$Slots.linkToWriters(II)V -/
def mm_M83 : mm_M := (yX6_linkToWriters, cX6_linkToWriters, 4, none, 6, false, [], [], mm_k83)
theorem mm_d83 : mm_k83.all (fun q => mm_deq (decode cX6_linkToWriters q.1) q.2.1 q.2.2.1) = true := by decide +kernel
def mm_k84 : List mm_I := [(0, .iconst 0, 1, 0, 0), (1, .istore_n 3, 1, 0, 0), (2, .iload_n 3, 1, 0, 0), (3, .bipush 8, 2, 0, 0), (5, .if_icmp .ge 53, 3, 0, 0), (8, .aload_n 0, 1, 0, 0), (9, .getfield 37, 3, 6, 8), (12, .iload_n 3, 1, 0, 0), (13, .iaload, 1, 0, 0), (14, .iload_n 2, 1, 0, 0), (15, .iand, 1, 0, 0), (16, .ifCond .eq 36, 3, 0, 0), (19, .aload_n 0, 1, 0, 0), (20, .iload_n 3, 1, 0, 0), (21, .iload_n 1, 1, 0, 0), (22, .invokevirtual 88, 3, 0, 82), (25, .ifCond .eq 27, 3, 0, 0), (28, .aload_n 0, 1, 0, 0), (29, .getfield 49, 3, 6, 12), (32, .iload_n 3, 1, 0, 0), (33, .dup2, 1, 0, 0), (34, .iaload, 1, 0, 0), (35, .iconst 1, 1, 0, 0), (36, .iload_n 1, 1, 0, 0), (37, .ishl, 1, 0, 0), (38, .ior, 1, 0, 0), (39, .iastore, 1, 0, 0), (40, .aload_n 0, 1, 0, 0), (41, .getfield 52, 3, 6, 13), (44, .iload_n 1, 1, 0, 0), (45, .dup2, 1, 0, 0), (46, .iaload, 1, 0, 0), (47, .iconst 1, 1, 0, 0), (48, .iload_n 3, 1, 0, 0), (49, .ishl, 1, 0, 0), (50, .ior, 1, 0, 0), (51, .iastore, 1, 0, 0), (52, .iinc 3 1, 3, 0, 0), (55, .goto (-53), 3, 0, 0), (58, .return_, 1, 0, 0)]
/-- SerialGate$Slots.linkFromReaders(II)V -/
def mm_M84 : mm_M := (yX6_linkFromReaders, cX6_linkFromReaders, 4, none, 6, false, [], [], mm_k84)
theorem mm_d84 : mm_k84.all (fun q => mm_deq (decode cX6_linkFromReaders q.1) q.2.1 q.2.2.1) = true := by decide +kernel
def mm_k85 : List mm_I := [(0, .aload_n 0, 1, 0, 0), (1, .iload_n 1, 1, 0, 0), (2, .invokevirtual 92, 3, 0, 76), (5, .istore_n 2, 1, 0, 0), (6, .aload_n 0, 1, 0, 0), (7, .getfield 18, 3, 6, 2), (10, .iload_n 1, 1, 0, 0), (11, .ishr, 1, 0, 0), (12, .iconst 1, 1, 0, 0), (13, .iand, 1, 0, 0), (14, .ifCond .ne 7, 3, 0, 0), (17, .iload_n 2, 1, 0, 0), (18, .ifCond .ne 4, 3, 0, 0), (21, .return_, 1, 0, 0), (22, .aload_n 0, 1, 0, 0), (23, .getfield 9, 3, 6, 0), (26, .aload_n 0, 1, 0, 0), (27, .getfield 18, 3, 6, 2), (30, .iand, 1, 0, 0), (31, .istore_n 3, 1, 0, 0), (32, .iconst 0, 1, 0, 0), (33, .istore 4, 2, 0, 0), (35, .iload 4, 2, 0, 0), (37, .bipush 8, 2, 0, 0), (39, .if_icmp .ge 58, 3, 0, 0), (42, .iload_n 3, 1, 0, 0), (43, .iload 4, 2, 0, 0), (45, .ishr, 1, 0, 0), (46, .iconst 1, 1, 0, 0), (47, .iand, 1, 0, 0), (48, .ifCond .eq 43, 3, 0, 0), (51, .aload_n 0, 1, 0, 0), (52, .getfield 28, 3, 6, 5), (55, .iload 4, 2, 0, 0), (57, .iaload, 1, 0, 0), (58, .iload_n 2, 1, 0, 0), (59, .if_icmp .le 32, 3, 0, 0), (62, .aload_n 0, 1, 0, 0), (63, .getfield 28, 3, 6, 5), (66, .iload 4, 2, 0, 0), (68, .iaload, 1, 0, 0), (69, .aload_n 0, 1, 0, 0), (70, .getfield 28, 3, 6, 5), (73, .iload_n 1, 1, 0, 0), (74, .iaload, 1, 0, 0), (75, .if_icmp .le 16, 3, 0, 0), (78, .aload_n 0, 1, 0, 0), (79, .dup, 1, 0, 0), (80, .getfield 21, 3, 6, 3), (83, .iconst 1, 1, 0, 0), (84, .iload 4, 2, 0, 0), (86, .ishl, 1, 0, 0), (87, .ior, 1, 0, 0), (88, .putfield 21, 3, 6, 3), (91, .iinc 4 1, 3, 0, 0), (94, .goto (-59), 3, 0, 0), (97, .return_, 1, 0, 0)]
/-- SerialGate$Slots.spoilReaders(I)V -/
def mm_M85 : mm_M := (yX6_spoilReaders, cX6_spoilReaders, 5, none, 6, false, [], [], mm_k85)
theorem mm_d85 : mm_k85.all (fun q => mm_deq (decode cX6_spoilReaders q.1) q.2.1 q.2.2.1) = true := by decide +kernel
def mm_k86 : List mm_I := [(0, .iconst 0, 1, 0, 0), (1, .istore_n 1, 1, 0, 0), (2, .iload_n 1, 1, 0, 0), (3, .bipush 8, 2, 0, 0), (5, .if_icmp .ge 29, 3, 0, 0), (8, .aload_n 0, 1, 0, 0), (9, .iload_n 1, 1, 0, 0), (10, .invokevirtual 64, 3, 0, 65), (13, .ifCond .eq 15, 3, 0, 0), (16, .aload_n 0, 1, 0, 0), (17, .iload_n 1, 1, 0, 0), (18, .invokevirtual 95, 3, 0, 87), (21, .bipush (-2), 2, 0, 0), (23, .if_icmp .eq 5, 3, 0, 0), (26, .iload_n 1, 1, 0, 0), (27, .ireturn, 1, 0, 0), (28, .iinc 1 1, 3, 0, 0), (31, .goto (-29), 3, 0, 0), (34, .iconst (-1), 1, 0, 0), (35, .ireturn, 1, 0, 0)]
/-- SerialGate$Slots.leastInDanger()I -/
def mm_M86 : mm_M := (yX6_leastInDanger, cX6_leastInDanger, 2, (some .int), 6, false, [], [], mm_k86)
theorem mm_d86 : mm_k86.all (fun q => mm_deq (decode cX6_leastInDanger q.1) q.2.1 q.2.2.1) = true := by decide +kernel
def mm_k87 : List mm_I := [(0, .aload_n 0, 1, 0, 0), (1, .iload_n 1, 1, 0, 0), (2, .invokevirtual 92, 3, 0, 76), (5, .istore_n 2, 1, 0, 0), (6, .aload_n 0, 1, 0, 0), (7, .iload_n 1, 1, 0, 0), (8, .invokevirtual 98, 3, 0, 64), (11, .istore_n 3, 1, 0, 0), (12, .iload_n 2, 1, 0, 0), (13, .ifCond .eq 17, 3, 0, 0), (16, .iload_n 3, 1, 0, 0), (17, .ifCond .ne 16, 3, 0, 0), (20, .iload_n 2, 1, 0, 0), (21, .aload_n 0, 1, 0, 0), (22, .getfield 31, 3, 6, 6), (25, .iload_n 1, 1, 0, 0), (26, .iaload, 1, 0, 0), (27, .if_icmp .lt 6, 3, 0, 0), (30, .bipush (-2), 2, 0, 0), (32, .ireturn, 1, 0, 0), (33, .iload_n 3, 1, 0, 0), (34, .ifCond .eq 24, 3, 0, 0), (37, .aload_n 0, 1, 0, 0), (38, .getfield 46, 3, 6, 11), (41, .iload_n 1, 1, 0, 0), (42, .iaload, 1, 0, 0), (43, .ifCond .le 15, 3, 0, 0), (46, .iload_n 2, 1, 0, 0), (47, .aload_n 0, 1, 0, 0), (48, .getfield 46, 3, 6, 11), (51, .iload_n 1, 1, 0, 0), (52, .iaload, 1, 0, 0), (53, .if_icmp .gt 5, 3, 0, 0), (56, .iconst (-1), 1, 0, 0), (57, .ireturn, 1, 0, 0), (58, .iload_n 3, 1, 0, 0), (59, .ifCond .eq 12, 3, 0, 0), (62, .aload_n 0, 1, 0, 0), (63, .getfield 52, 3, 6, 13), (66, .iload_n 1, 1, 0, 0), (67, .iaload, 1, 0, 0), (68, .goto 14, 3, 0, 0), (71, .aload_n 0, 1, 0, 0), (72, .getfield 52, 3, 6, 13), (75, .iload_n 1, 1, 0, 0), (76, .iaload, 1, 0, 0), (77, .aload_n 0, 1, 0, 0), (78, .getfield 9, 3, 6, 0), (81, .iand, 1, 0, 0), (82, .istore 4, 2, 0, 0), (84, .iconst 0, 1, 0, 0), (85, .istore 5, 2, 0, 0), (87, .iload 5, 2, 0, 0), (89, .bipush 8, 2, 0, 0), (91, .if_icmp .ge 32, 3, 0, 0), (94, .iload 4, 2, 0, 0), (96, .iload 5, 2, 0, 0), (98, .ishr, 1, 0, 0), (99, .iconst 1, 1, 0, 0), (100, .iand, 1, 0, 0), (101, .ifCond .eq 16, 3, 0, 0), (104, .aload_n 0, 1, 0, 0), (105, .iload 5, 2, 0, 0), (107, .iload_n 2, 1, 0, 0), (108, .invokevirtual 101, 3, 0, 88), (111, .ifCond .eq 6, 3, 0, 0), (114, .iload 5, 2, 0, 0), (116, .ireturn, 1, 0, 0), (117, .iinc 5 1, 3, 0, 0), (120, .goto (-33), 3, 0, 0), (123, .bipush (-2), 2, 0, 0), (125, .ireturn, 1, 0, 0)]
/-- SerialGate$Slots.aheadOf(I)I -/
def mm_M87 : mm_M := (yX6_aheadOf, cX6_aheadOf, 6, (some .int), 6, false, [], [], mm_k87)
theorem mm_d87 : mm_k87.all (fun q => mm_deq (decode cX6_aheadOf q.1) q.2.1 q.2.2.1) = true := by decide +kernel
def mm_k88 : List mm_I := [(0, .aload_n 0, 1, 0, 0), (1, .getfield 15, 3, 6, 1), (4, .iload_n 1, 1, 0, 0), (5, .ishr, 1, 0, 0), (6, .iconst 1, 1, 0, 0), (7, .iand, 1, 0, 0), (8, .ifCond .eq 15, 3, 0, 0), (11, .iload_n 2, 1, 0, 0), (12, .aload_n 0, 1, 0, 0), (13, .getfield 31, 3, 6, 6), (16, .iload_n 1, 1, 0, 0), (17, .iaload, 1, 0, 0), (18, .if_icmp .le 5, 3, 0, 0), (21, .iconst 0, 1, 0, 0), (22, .ireturn, 1, 0, 0), (23, .aload_n 0, 1, 0, 0), (24, .getfield 18, 3, 6, 2), (27, .iload_n 1, 1, 0, 0), (28, .ishr, 1, 0, 0), (29, .iconst 1, 1, 0, 0), (30, .iand, 1, 0, 0), (31, .ifCond .eq 13, 3, 0, 0), (34, .iload_n 2, 1, 0, 0), (35, .aload_n 0, 1, 0, 0), (36, .getfield 28, 3, 6, 5), (39, .iload_n 1, 1, 0, 0), (40, .iaload, 1, 0, 0), (41, .if_icmp .ge 7, 3, 0, 0), (44, .iconst 1, 1, 0, 0), (45, .goto 4, 3, 0, 0), (48, .iconst 0, 1, 0, 0), (49, .ireturn, 1, 0, 0)]
/-- SerialGate$Slots.isEndangered(II)Z -/
def mm_M88 : mm_M := (yX6_isEndangered, cX6_isEndangered, 3, (some .boolean), 6, false, [], [], mm_k88)
theorem mm_d88 : mm_k88.all (fun q => mm_deq (decode cX6_isEndangered q.1) q.2.1 q.2.2.1) = true := by decide +kernel
def mm_k89 : List mm_I := [(0, .aload_n 0, 1, 0, 0), (1, .getfield 9, 3, 6, 0), (4, .istore_n 1, 1, 0, 0), (5, .iconst 0, 1, 0, 0), (6, .istore_n 2, 1, 0, 0), (7, .iload_n 2, 1, 0, 0), (8, .sipush 256, 3, 0, 0), (11, .if_icmp .ge 41, 3, 0, 0), (14, .iload_n 2, 1, 0, 0), (15, .aload_n 0, 1, 0, 0), (16, .getfield 9, 3, 6, 0), (19, .iconst (-1), 1, 0, 0), (20, .ixor, 1, 0, 0), (21, .iand, 1, 0, 0), (22, .ifCond .ne 24, 3, 0, 0), (25, .iload_n 2, 1, 0, 0), (26, .invokestatic 75, 3, 0, 343), (29, .iload_n 1, 1, 0, 0), (30, .invokestatic 75, 3, 0, 343), (33, .if_icmp .ge 13, 3, 0, 0), (36, .aload_n 0, 1, 0, 0), (37, .iload_n 2, 1, 0, 0), (38, .invokevirtual 104, 3, 0, 90), (41, .ifCond .eq 5, 3, 0, 0), (44, .iload_n 2, 1, 0, 0), (45, .istore_n 1, 1, 0, 0), (46, .iinc 2 1, 3, 0, 0), (49, .goto (-42), 3, 0, 0), (52, .iload_n 1, 1, 0, 0), (53, .ireturn, 1, 0, 0)]
/-- SerialGate$Slots.leastCut()I -/
def mm_M89 : mm_M := (yX6_leastCut, cX6_leastCut, 3, (some .int), 6, false, [], [], mm_k89)
theorem mm_d89 : mm_k89.all (fun q => mm_deq (decode cX6_leastCut q.1) q.2.1 q.2.2.1) = true := by decide +kernel
def mm_k90 : List mm_I := [(0, .iconst 0, 1, 0, 0), (1, .istore_n 2, 1, 0, 0), (2, .iload_n 2, 1, 0, 0), (3, .bipush 8, 2, 0, 0), (5, .if_icmp .ge 62, 3, 0, 0), (8, .aload_n 0, 1, 0, 0), (9, .getfield 9, 3, 6, 0), (12, .iload_n 1, 1, 0, 0), (13, .iconst (-1), 1, 0, 0), (14, .ixor, 1, 0, 0), (15, .iand, 1, 0, 0), (16, .iload_n 2, 1, 0, 0), (17, .ishr, 1, 0, 0), (18, .iconst 1, 1, 0, 0), (19, .iand, 1, 0, 0), (20, .ifCond .eq 7, 3, 0, 0), (23, .iconst 1, 1, 0, 0), (24, .goto 4, 3, 0, 0), (27, .iconst 0, 1, 0, 0), (28, .istore_n 3, 1, 0, 0), (29, .iload_n 3, 1, 0, 0), (30, .ifCond .eq 31, 3, 0, 0), (33, .aload_n 0, 1, 0, 0), (34, .getfield 49, 3, 6, 12), (37, .iload_n 2, 1, 0, 0), (38, .iaload, 1, 0, 0), (39, .iload_n 1, 1, 0, 0), (40, .iconst (-1), 1, 0, 0), (41, .ixor, 1, 0, 0), (42, .iand, 1, 0, 0), (43, .ifCond .eq 18, 3, 0, 0), (46, .aload_n 0, 1, 0, 0), (47, .getfield 52, 3, 6, 13), (50, .iload_n 2, 1, 0, 0), (51, .iaload, 1, 0, 0), (52, .iload_n 1, 1, 0, 0), (53, .iconst (-1), 1, 0, 0), (54, .ixor, 1, 0, 0), (55, .iand, 1, 0, 0), (56, .ifCond .eq 5, 3, 0, 0), (59, .iconst 0, 1, 0, 0), (60, .ireturn, 1, 0, 0), (61, .iinc 2 1, 3, 0, 0), (64, .goto (-62), 3, 0, 0), (67, .iconst 1, 1, 0, 0), (68, .ireturn, 1, 0, 0)]
/-- SerialGate$Slots.isCut(I)Z -/
def mm_M90 : mm_M := (yX6_isCut, cX6_isCut, 4, (some .boolean), 6, false, [], [], mm_k90)
theorem mm_d90 : mm_k90.all (fun q => mm_deq (decode cX6_isCut q.1) q.2.1 q.2.2.1) = true := by decide +kernel
def mm_k91 : List mm_I := [(0, .aload_n 0, 1, 0, 0), (1, .invokespecial 3, 3, 1, 0), (4, .aload_n 0, 1, 0, 0), (5, .aload_n 1, 1, 0, 0), (6, .putfield 9, 3, 7, 0), (9, .return_, 1, 0, 0)]
/-- SerialGate$StoreReader.<init>(LSerialGate$Tape;)V -/
def mm_M91 : mm_M := (yX7_init, cX7_init, 2, none, 7, true, [], [], mm_k91)
theorem mm_d91 : mm_k91.all (fun q => mm_deq (decode cX7_init q.1) q.2.1 q.2.2.1) = true := by decide +kernel
def mm_k92 : List mm_I := [(0, .aload_n 0, 1, 0, 0), (1, .getfield 9, 3, 7, 0), (4, .invokevirtual 15, 3, 0, 100), (7, .aload_n 0, 1, 0, 0), (8, .getfield 9, 3, 7, 0), (11, .invokevirtual 20, 3, 0, 101), (14, .ifCond .eq 5, 3, 0, 0), (17, .iconst 1, 1, 0, 0), (18, .ireturn, 1, 0, 0), (19, .iconst 0, 1, 0, 0), (20, .istore_n 2, 1, 0, 0), (21, .iload_n 2, 1, 0, 0), (22, .bipush 14, 2, 0, 0), (24, .if_icmp .ge 45, 3, 0, 0), (27, .aload_n 0, 1, 0, 0), (28, .aload_n 1, 1, 0, 0), (29, .invokevirtual 24, 3, 0, 93), (32, .ifCond .ne 5, 3, 0, 0), (35, .iconst 0, 1, 0, 0), (36, .ireturn, 1, 0, 0), (37, .aload_n 0, 1, 0, 0), (38, .getfield 9, 3, 7, 0), (41, .invokevirtual 20, 3, 0, 101), (44, .ifCond .eq 5, 3, 0, 0), (47, .iconst 1, 1, 0, 0), (48, .ireturn, 1, 0, 0), (49, .aload_n 0, 1, 0, 0), (50, .getfield 9, 3, 7, 0), (53, .bipush 59, 2, 0, 0), (55, .invokevirtual 28, 3, 0, 104), (58, .ifCond .ne 5, 3, 0, 0), (61, .iconst 0, 1, 0, 0), (62, .ireturn, 1, 0, 0), (63, .iinc 2 1, 3, 0, 0), (66, .goto (-45), 3, 0, 0), (69, .iconst 0, 1, 0, 0), (70, .ireturn, 1, 0, 0)]
/-- SerialGate$StoreReader.readsText(LSerialGate$World;)Z -/
def mm_M92 : mm_M := (yX7_readsText, cX7_readsText, 3, (some .boolean), 7, false, [], [], mm_k92)
theorem mm_d92 : mm_k92.all (fun q => mm_deq (decode cX7_readsText q.1) q.2.1 q.2.2.1) = true := by decide +kernel
def mm_k93 : List mm_I := [(0, .aload_n 1, 1, 0, 0), (1, .getfield 32, 3, 9, 1), (4, .getfield 38, 3, 0, 0), (7, .iconst 5, 1, 0, 0), (8, .if_icmp .ge 24, 3, 0, 0), (11, .aload_n 0, 1, 0, 0), (12, .getfield 9, 3, 7, 0), (15, .ldc 44, 2, 0, 1), (17, .invokevirtual 46, 3, 0, 105), (20, .ifCond .eq 12, 3, 0, 0), (23, .aload_n 0, 1, 0, 0), (24, .aload_n 1, 1, 0, 0), (25, .getfield 32, 3, 9, 1), (28, .invokevirtual 50, 3, 0, 94), (31, .ireturn, 1, 0, 0), (32, .aload_n 0, 1, 0, 0), (33, .getfield 9, 3, 7, 0), (36, .ldc 54, 2, 0, 5), (38, .invokevirtual 46, 3, 0, 105), (41, .ifCond .eq 9, 3, 0, 0), (44, .aload_n 0, 1, 0, 0), (45, .aload_n 1, 1, 0, 0), (46, .invokevirtual 56, 3, 0, 96), (49, .ireturn, 1, 0, 0), (50, .aload_n 0, 1, 0, 0), (51, .getfield 9, 3, 7, 0), (54, .ldc 59, 2, 0, 6), (56, .invokevirtual 46, 3, 0, 105), (59, .ifCond .eq 41, 3, 0, 0), (62, .aload_n 0, 1, 0, 0), (63, .getfield 9, 3, 7, 0), (66, .bipush 6, 2, 0, 0), (68, .invokevirtual 61, 3, 0, 108), (71, .istore_n 2, 1, 0, 0), (72, .aload_n 1, 1, 0, 0), (73, .iload_n 2, 1, 0, 0), (74, .iconst (-1), 1, 0, 0), (75, .if_icmp .ne 10, 3, 0, 0), (78, .aload_n 1, 1, 0, 0), (79, .getfield 65, 3, 9, 10), (82, .goto 4, 3, 0, 0), (85, .iload_n 2, 1, 0, 0), (86, .putfield 65, 3, 9, 10), (89, .iload_n 2, 1, 0, 0), (90, .iconst (-1), 1, 0, 0), (91, .if_icmp .eq 7, 3, 0, 0), (94, .iconst 1, 1, 0, 0), (95, .goto 4, 3, 0, 0), (98, .iconst 0, 1, 0, 0), (99, .ireturn, 1, 0, 0), (100, .aload_n 0, 1, 0, 0), (101, .getfield 9, 3, 7, 0), (104, .ldc 67, 2, 0, 7), (106, .invokevirtual 46, 3, 0, 105), (109, .ifCond .eq 42, 3, 0, 0), (112, .aload_n 0, 1, 0, 0), (113, .getfield 9, 3, 7, 0), (116, .sipush 999, 3, 0, 0), (119, .invokevirtual 61, 3, 0, 108), (122, .istore_n 2, 1, 0, 0), (123, .aload_n 1, 1, 0, 0), (124, .iload_n 2, 1, 0, 0), (125, .iconst (-1), 1, 0, 0), (126, .if_icmp .ne 10, 3, 0, 0), (129, .aload_n 1, 1, 0, 0), (130, .getfield 69, 3, 9, 11), (133, .goto 4, 3, 0, 0), (136, .iload_n 2, 1, 0, 0), (137, .putfield 69, 3, 9, 11), (140, .iload_n 2, 1, 0, 0), (141, .iconst (-1), 1, 0, 0), (142, .if_icmp .eq 7, 3, 0, 0), (145, .iconst 1, 1, 0, 0), (146, .goto 4, 3, 0, 0), (149, .iconst 0, 1, 0, 0), (150, .ireturn, 1, 0, 0), (151, .iconst 0, 1, 0, 0), (152, .ireturn, 1, 0, 0)]
/-- SerialGate$StoreReader.readsLine(LSerialGate$World;)Z -/
def mm_M93 : mm_M := (yX7_readsLine, cX7_readsLine, 3, (some .boolean), 7, false, [], [], mm_k93)
theorem mm_d93 : mm_k93.all (fun q => mm_deq (decode cX7_readsLine q.1) q.2.1 q.2.2.1) = true := by decide +kernel
def mm_k94 : List mm_I := [(0, .iconst 0, 1, 0, 0), (1, .istore_n 2, 1, 0, 0), (2, .iconst 0, 1, 0, 0), (3, .istore_n 3, 1, 0, 0), (4, .aload_n 0, 1, 0, 0), (5, .getfield 9, 3, 7, 0), (8, .ldc 71, 2, 0, 2), (10, .invokevirtual 46, 3, 0, 105), (13, .ifCond .eq 8, 3, 0, 0), (16, .aload_n 0, 1, 0, 0), (17, .invokevirtual 73, 3, 0, 95), (20, .istore_n 2, 1, 0, 0), (21, .iload_n 2, 1, 0, 0), (22, .iconst (-1), 1, 0, 0), (23, .if_icmp .eq 20, 3, 0, 0), (26, .aload_n 0, 1, 0, 0), (27, .getfield 9, 3, 7, 0), (30, .ldc 77, 2, 0, 3), (32, .invokevirtual 46, 3, 0, 105), (35, .ifCond .eq 8, 3, 0, 0), (38, .aload_n 0, 1, 0, 0), (39, .invokevirtual 73, 3, 0, 95), (42, .istore_n 3, 1, 0, 0), (43, .iload_n 2, 1, 0, 0), (44, .iconst (-1), 1, 0, 0), (45, .if_icmp .eq 8, 3, 0, 0), (48, .iload_n 3, 1, 0, 0), (49, .iconst (-1), 1, 0, 0), (50, .if_icmp .ne 5, 3, 0, 0), (53, .iconst 0, 1, 0, 0), (54, .ireturn, 1, 0, 0), (55, .iload_n 3, 1, 0, 0), (56, .ifCond .ne 19, 3, 0, 0), (59, .aload_n 0, 1, 0, 0), (60, .getfield 9, 3, 7, 0), (63, .ldc 79, 2, 0, 4), (65, .invokevirtual 46, 3, 0, 105), (68, .ifCond .eq 7, 3, 0, 0), (71, .iconst 1, 1, 0, 0), (72, .goto 4, 3, 0, 0), (75, .iconst 0, 1, 0, 0), (76, .istore 4, 2, 0, 0), (78, .aload_n 1, 1, 0, 0), (79, .iload_n 2, 1, 0, 0), (80, .iload_n 3, 1, 0, 0), (81, .iload 4, 2, 0, 0), (83, .invokevirtual 81, 3, 0, 2), (86, .iconst 1, 1, 0, 0), (87, .ireturn, 1, 0, 0)]
/-- SerialGate$StoreReader.readsClient(LSerialGate$Clients;)Z -/
def mm_M94 : mm_M := (yX7_readsClient, cX7_readsClient, 5, (some .boolean), 7, false, [], [], mm_k94)
theorem mm_d94 : mm_k94.all (fun q => mm_deq (decode cX7_readsClient q.1) q.2.1 q.2.2.1) = true := by decide +kernel
def mm_k95 : List mm_I := [(0, .iconst 0, 1, 0, 0), (1, .istore_n 1, 1, 0, 0), (2, .iconst 0, 1, 0, 0), (3, .istore_n 2, 1, 0, 0), (4, .iload_n 2, 1, 0, 0), (5, .bipush 10, 2, 0, 0), (7, .if_icmp .ge 44, 3, 0, 0), (10, .aload_n 0, 1, 0, 0), (11, .getfield 9, 3, 7, 0), (14, .bipush 9, 2, 0, 0), (16, .invokevirtual 61, 3, 0, 108), (19, .istore_n 3, 1, 0, 0), (20, .iload_n 3, 1, 0, 0), (21, .iconst (-1), 1, 0, 0), (22, .if_icmp .ne 5, 3, 0, 0), (25, .iconst (-1), 1, 0, 0), (26, .ireturn, 1, 0, 0), (27, .iload_n 1, 1, 0, 0), (28, .iconst 1, 1, 0, 0), (29, .iload_n 3, 1, 0, 0), (30, .ishl, 1, 0, 0), (31, .ior, 1, 0, 0), (32, .istore_n 1, 1, 0, 0), (33, .aload_n 0, 1, 0, 0), (34, .getfield 9, 3, 7, 0), (37, .invokevirtual 85, 3, 0, 106), (40, .ifCond .ne 5, 3, 0, 0), (43, .iload_n 1, 1, 0, 0), (44, .ireturn, 1, 0, 0), (45, .iinc 2 1, 3, 0, 0), (48, .goto (-44), 3, 0, 0), (51, .iconst (-1), 1, 0, 0), (52, .ireturn, 1, 0, 0)]
/-- SerialGate$StoreReader.takenKeys()I -/
def mm_M95 : mm_M := (yX7_takenKeys, cX7_takenKeys, 4, (some .int), 7, false, [], [], mm_k95)
theorem mm_d95 : mm_k95.all (fun q => mm_deq (decode cX7_takenKeys q.1) q.2.1 q.2.2.1) = true := by decide +kernel
def mm_k96 : List mm_I := [(0, .aload_n 0, 1, 0, 0), (1, .getfield 9, 3, 7, 0), (4, .bipush 9, 2, 0, 0), (6, .invokevirtual 88, 3, 0, 107), (9, .istore_n 2, 1, 0, 0), (10, .iload_n 2, 1, 0, 0), (11, .iconst (-1), 1, 0, 0), (12, .if_icmp .eq 15, 3, 0, 0), (15, .aload_n 1, 1, 0, 0), (16, .getfield 91, 3, 9, 2), (19, .iload_n 2, 1, 0, 0), (20, .invokevirtual 95, 3, 0, 72), (23, .iconst (-1), 1, 0, 0), (24, .if_icmp .eq 5, 3, 0, 0), (27, .iconst 0, 1, 0, 0), (28, .ireturn, 1, 0, 0), (29, .aload_n 0, 1, 0, 0), (30, .getfield 9, 3, 7, 0), (33, .bipush 9, 2, 0, 0), (35, .invokevirtual 61, 3, 0, 108), (38, .pop, 1, 0, 0), (39, .aload_n 0, 1, 0, 0), (40, .getfield 9, 3, 7, 0), (43, .sipush 999, 3, 0, 0), (46, .invokevirtual 61, 3, 0, 108), (49, .istore_n 3, 1, 0, 0), (50, .iload_n 3, 1, 0, 0), (51, .iconst (-1), 1, 0, 0), (52, .if_icmp .ne 5, 3, 0, 0), (55, .iconst 0, 1, 0, 0), (56, .ireturn, 1, 0, 0), (57, .aload_n 1, 1, 0, 0), (58, .getfield 100, 3, 9, 5), (61, .iload_n 2, 1, 0, 0), (62, .sipush 9999, 3, 0, 0), (65, .aload_n 1, 1, 0, 0), (66, .getfield 100, 3, 9, 5), (69, .iload_n 2, 1, 0, 0), (70, .iaload, 1, 0, 0), (71, .iload_n 3, 1, 0, 0), (72, .iadd, 1, 0, 0), (73, .invokestatic 103, 3, 0, 345), (76, .iastore, 1, 0, 0), (77, .iconst 1, 1, 0, 0), (78, .ireturn, 1, 0, 0)]
/-- SerialGate$StoreReader.readsVersion(LSerialGate$World;)Z -/
def mm_M96 : mm_M := (yX7_readsVersion, cX7_readsVersion, 4, (some .boolean), 7, false, [], [], mm_k96)
theorem mm_d96 : mm_k96.all (fun q => mm_deq (decode cX7_readsVersion q.1) q.2.1 q.2.2.1) = true := by decide +kernel
def mm_k97 : List mm_I := [(0, .aload_n 0, 1, 0, 0), (1, .invokespecial 3, 3, 1, 0), (4, .aload_n 0, 1, 0, 0), (5, .sipush 400, 3, 0, 0), (8, .newarray .int, 2, 0, 0), (10, .putfield 11, 3, 8, 0), (13, .aload_n 0, 1, 0, 0), (14, .iconst 0, 1, 0, 0), (15, .putfield 15, 3, 8, 1), (18, .aload_n 0, 1, 0, 0), (19, .iconst 0, 1, 0, 0), (20, .putfield 19, 3, 8, 2), (23, .return_, 1, 0, 0)]
/-- SerialGate$Tape.<init>()V -/
def mm_M97 : mm_M := (yX8_init, cX8_init, 1, none, 8, true, [], [], mm_k97)
theorem mm_d97 : mm_k97.all (fun q => mm_deq (decode cX8_init q.1) q.2.1 q.2.2.1) = true := by decide +kernel
def mm_k98 : List mm_I := [(0, .bipush 24, 2, 0, 0), (2, .istore_n 2, 1, 0, 0), (3, .iload_n 2, 1, 0, 0), (4, .ifCond .lt 45, 3, 0, 0), (7, .aload_n 0, 1, 0, 0), (8, .getfield 15, 3, 8, 1), (11, .sipush 400, 3, 0, 0), (14, .if_icmp .ge 35, 3, 0, 0), (17, .aload_n 0, 1, 0, 0), (18, .getfield 11, 3, 8, 0), (21, .aload_n 0, 1, 0, 0), (22, .getfield 15, 3, 8, 1), (25, .iload_n 1, 1, 0, 0), (26, .iload_n 2, 1, 0, 0), (27, .iushr, 1, 0, 0), (28, .sipush 255, 3, 0, 0), (31, .iand, 1, 0, 0), (32, .iastore, 1, 0, 0), (33, .aload_n 0, 1, 0, 0), (34, .dup, 1, 0, 0), (35, .getfield 15, 3, 8, 1), (38, .iconst 1, 1, 0, 0), (39, .iadd, 1, 0, 0), (40, .putfield 15, 3, 8, 1), (43, .iinc 2 (-8), 3, 0, 0), (46, .goto (-43), 3, 0, 0), (49, .return_, 1, 0, 0)]
/-- SerialGate$Tape.append(I)V -/
def mm_M98 : mm_M := (yX8_append, cX8_append, 3, none, 8, false, [], [], mm_k98)
theorem mm_d98 : mm_k98.all (fun q => mm_deq (decode cX8_append q.1) q.2.1 q.2.2.1) = true := by decide +kernel
def mm_k99 : List mm_I := [(0, .aload_n 0, 1, 0, 0), (1, .iconst 0, 1, 0, 0), (2, .putfield 15, 3, 8, 1), (5, .aload_n 0, 1, 0, 0), (6, .iconst 0, 1, 0, 0), (7, .putfield 19, 3, 8, 2), (10, .return_, 1, 0, 0)]
/-- SerialGate$Tape.useUp()V -/
def mm_M99 : mm_M := (yX8_useUp, cX8_useUp, 1, none, 8, false, [], [], mm_k99)
theorem mm_d99 : mm_k99.all (fun q => mm_deq (decode cX8_useUp q.1) q.2.1 q.2.2.1) = true := by decide +kernel
def mm_k100 : List mm_I := [(0, .aload_n 0, 1, 0, 0), (1, .iconst 0, 1, 0, 0), (2, .putfield 19, 3, 8, 2), (5, .aload_n 0, 1, 0, 0), (6, .iconst 0, 1, 0, 0), (7, .invokevirtual 22, 3, 0, 102), (10, .return_, 1, 0, 0)]
/-- SerialGate$Tape.rewind()V -/
def mm_M100 : mm_M := (yX8_rewind, cX8_rewind, 1, none, 8, false, [], [], mm_k100)
theorem mm_d100 : mm_k100.all (fun q => mm_deq (decode cX8_rewind q.1) q.2.1 q.2.2.1) = true := by decide +kernel
def mm_k101 : List mm_I := [(0, .aload_n 0, 1, 0, 0), (1, .getfield 19, 3, 8, 2), (4, .aload_n 0, 1, 0, 0), (5, .getfield 15, 3, 8, 1), (8, .if_icmp .lt 7, 3, 0, 0), (11, .iconst 1, 1, 0, 0), (12, .goto 4, 3, 0, 0), (15, .iconst 0, 1, 0, 0), (16, .ireturn, 1, 0, 0)]
/-- SerialGate$Tape.hasEnded()Z -/
def mm_M101 : mm_M := (yX8_hasEnded, cX8_hasEnded, 1, (some .boolean), 8, false, [], [], mm_k101)
theorem mm_d101 : mm_k101.all (fun q => mm_deq (decode cX8_hasEnded q.1) q.2.1 q.2.2.1) = true := by decide +kernel
def mm_k102 : List mm_I := [(0, .aload_n 0, 1, 0, 0), (1, .dup, 1, 0, 0), (2, .getfield 19, 3, 8, 2), (5, .iload_n 1, 1, 0, 0), (6, .iadd, 1, 0, 0), (7, .putfield 19, 3, 8, 2), (10, .aload_n 0, 1, 0, 0), (11, .getfield 19, 3, 8, 2), (14, .aload_n 0, 1, 0, 0), (15, .getfield 15, 3, 8, 1), (18, .if_icmp .ge 30, 3, 0, 0), (21, .aload_n 0, 1, 0, 0), (22, .getfield 11, 3, 8, 0), (25, .aload_n 0, 1, 0, 0), (26, .getfield 19, 3, 8, 2), (29, .iaload, 1, 0, 0), (30, .bipush 32, 2, 0, 0), (32, .if_icmp .ne 16, 3, 0, 0), (35, .aload_n 0, 1, 0, 0), (36, .dup, 1, 0, 0), (37, .getfield 19, 3, 8, 2), (40, .iconst 1, 1, 0, 0), (41, .iadd, 1, 0, 0), (42, .putfield 19, 3, 8, 2), (45, .goto (-35), 3, 0, 0), (48, .return_, 1, 0, 0)]
/-- SerialGate$Tape.pass(I)V -/
def mm_M102 : mm_M := (yX8_pass, cX8_pass, 2, none, 8, false, [], [], mm_k102)
theorem mm_d102 : mm_k102.all (fun q => mm_deq (decode cX8_pass q.1) q.2.1 q.2.2.1) = true := by decide +kernel
def mm_k103 : List mm_I := [(0, .iload_n 1, 1, 0, 0), (1, .aload_n 0, 1, 0, 0), (2, .getfield 15, 3, 8, 1), (5, .if_icmp .ge 27, 3, 0, 0), (8, .aload_n 0, 1, 0, 0), (9, .getfield 11, 3, 8, 0), (12, .iload_n 1, 1, 0, 0), (13, .iaload, 1, 0, 0), (14, .iload_n 2, 1, 0, 0), (15, .if_icmp .lt 17, 3, 0, 0), (18, .aload_n 0, 1, 0, 0), (19, .getfield 11, 3, 8, 0), (22, .iload_n 1, 1, 0, 0), (23, .iaload, 1, 0, 0), (24, .iload_n 3, 1, 0, 0), (25, .if_icmp .gt 7, 3, 0, 0), (28, .iconst 1, 1, 0, 0), (29, .goto 4, 3, 0, 0), (32, .iconst 0, 1, 0, 0), (33, .ireturn, 1, 0, 0)]
/-- SerialGate$Tape.isWithin(ICC)Z -/
def mm_M103 : mm_M := (yX8_isWithin, cX8_isWithin, 4, (some .boolean), 8, false, [], [], mm_k103)
theorem mm_d103 : mm_k103.all (fun q => mm_deq (decode cX8_isWithin q.1) q.2.1 q.2.2.1) = true := by decide +kernel
def mm_k104 : List mm_I := [(0, .aload_n 0, 1, 0, 0), (1, .aload_n 0, 1, 0, 0), (2, .getfield 19, 3, 8, 2), (5, .iload_n 1, 1, 0, 0), (6, .iload_n 1, 1, 0, 0), (7, .invokevirtual 26, 3, 0, 103), (10, .ifCond .ne 5, 3, 0, 0), (13, .iconst 0, 1, 0, 0), (14, .ireturn, 1, 0, 0), (15, .aload_n 0, 1, 0, 0), (16, .iconst 1, 1, 0, 0), (17, .invokevirtual 22, 3, 0, 102), (20, .iconst 1, 1, 0, 0), (21, .ireturn, 1, 0, 0)]
/-- SerialGate$Tape.takesSign(C)Z -/
def mm_M104 : mm_M := (yX8_takesSign, cX8_takesSign, 2, (some .boolean), 8, false, [], [], mm_k104)
theorem mm_d104 : mm_k104.all (fun q => mm_deq (decode cX8_takesSign q.1) q.2.1 q.2.2.1) = true := by decide +kernel
def mm_k105 : List mm_I := [(0, .aload_n 1, 1, 0, 0), (1, .invokevirtual 30, 3, 1, 0), (4, .istore_n 2, 1, 0, 0), (5, .iconst 0, 1, 0, 0), (6, .istore_n 3, 1, 0, 0), (7, .iload_n 3, 1, 0, 0), (8, .iload_n 2, 1, 0, 0), (9, .if_icmp .ge 43, 3, 0, 0), (12, .aload_n 0, 1, 0, 0), (13, .getfield 19, 3, 8, 2), (16, .iload_n 3, 1, 0, 0), (17, .iadd, 1, 0, 0), (18, .aload_n 0, 1, 0, 0), (19, .getfield 15, 3, 8, 1), (22, .if_icmp .ge 22, 3, 0, 0), (25, .aload_n 0, 1, 0, 0), (26, .getfield 11, 3, 8, 0), (29, .aload_n 0, 1, 0, 0), (30, .getfield 19, 3, 8, 2), (33, .iload_n 3, 1, 0, 0), (34, .iadd, 1, 0, 0), (35, .iaload, 1, 0, 0), (36, .aload_n 1, 1, 0, 0), (37, .iload_n 3, 1, 0, 0), (38, .invokevirtual 35, 3, 2, 0), (41, .if_icmp .eq 5, 3, 0, 0), (44, .iconst 0, 1, 0, 0), (45, .ireturn, 1, 0, 0), (46, .iinc 3 1, 3, 0, 0), (49, .goto (-42), 3, 0, 0), (52, .aload_n 0, 1, 0, 0), (53, .aload_n 0, 1, 0, 0), (54, .getfield 19, 3, 8, 2), (57, .iload_n 2, 1, 0, 0), (58, .iadd, 1, 0, 0), (59, .bipush 97, 2, 0, 0), (61, .bipush 122, 2, 0, 0), (63, .invokevirtual 26, 3, 0, 103), (66, .ifCond .eq 5, 3, 0, 0), (69, .iconst 0, 1, 0, 0), (70, .ireturn, 1, 0, 0), (71, .aload_n 0, 1, 0, 0), (72, .iload_n 2, 1, 0, 0), (73, .invokevirtual 22, 3, 0, 102), (76, .iconst 1, 1, 0, 0), (77, .ireturn, 1, 0, 0)]
/-- SerialGate$Tape.takesWord(Ljava/lang/String;)Z -/
def mm_M105 : mm_M := (yX8_takesWord, cX8_takesWord, 4, (some .boolean), 8, false, [], [], mm_k105)
theorem mm_d105 : mm_k105.all (fun q => mm_deq (decode cX8_takesWord q.1) q.2.1 q.2.2.1) = true := by decide +kernel
def mm_k106 : List mm_I := [(0, .aload_n 0, 1, 0, 0), (1, .aload_n 0, 1, 0, 0), (2, .getfield 19, 3, 8, 2), (5, .bipush 48, 2, 0, 0), (7, .bipush 57, 2, 0, 0), (9, .invokevirtual 26, 3, 0, 103), (12, .ireturn, 1, 0, 0)]
/-- SerialGate$Tape.isAtNumber()Z -/
def mm_M106 : mm_M := (yX8_isAtNumber, cX8_isAtNumber, 1, (some .boolean), 8, false, [], [], mm_k106)
theorem mm_d106 : mm_k106.all (fun q => mm_deq (decode cX8_isAtNumber q.1) q.2.1 q.2.2.1) = true := by decide +kernel
def mm_k107 : List mm_I := [(0, .iconst 0, 1, 0, 0), (1, .istore_n 2, 1, 0, 0), (2, .iconst 0, 1, 0, 0), (3, .istore_n 3, 1, 0, 0), (4, .iload_n 3, 1, 0, 0), (5, .iconst 3, 1, 0, 0), (6, .if_icmp .gt 46, 3, 0, 0), (9, .aload_n 0, 1, 0, 0), (10, .aload_n 0, 1, 0, 0), (11, .getfield 19, 3, 8, 2), (14, .iload_n 3, 1, 0, 0), (15, .iadd, 1, 0, 0), (16, .bipush 48, 2, 0, 0), (18, .bipush 57, 2, 0, 0), (20, .invokevirtual 26, 3, 0, 103), (23, .ifCond .eq 29, 3, 0, 0), (26, .iload_n 2, 1, 0, 0), (27, .bipush 10, 2, 0, 0), (29, .imul, 1, 0, 0), (30, .aload_n 0, 1, 0, 0), (31, .getfield 11, 3, 8, 0), (34, .aload_n 0, 1, 0, 0), (35, .getfield 19, 3, 8, 2), (38, .iload_n 3, 1, 0, 0), (39, .iadd, 1, 0, 0), (40, .iaload, 1, 0, 0), (41, .iadd, 1, 0, 0), (42, .bipush 48, 2, 0, 0), (44, .isub, 1, 0, 0), (45, .istore_n 2, 1, 0, 0), (46, .iinc 3 1, 3, 0, 0), (49, .goto (-45), 3, 0, 0), (52, .iload_n 3, 1, 0, 0), (53, .ifCond .eq 13, 3, 0, 0), (56, .iload_n 3, 1, 0, 0), (57, .iconst 3, 1, 0, 0), (58, .if_icmp .gt 8, 3, 0, 0), (61, .iload_n 2, 1, 0, 0), (62, .iload_n 1, 1, 0, 0), (63, .if_icmp .le 7, 3, 0, 0), (66, .iconst (-1), 1, 0, 0), (67, .goto 4, 3, 0, 0), (70, .iload_n 2, 1, 0, 0), (71, .ireturn, 1, 0, 0)]
/-- SerialGate$Tape.nextNumber(I)I -/
def mm_M107 : mm_M := (yX8_nextNumber, cX8_nextNumber, 4, (some .int), 8, false, [], [], mm_k107)
theorem mm_d107 : mm_k107.all (fun q => mm_deq (decode cX8_nextNumber q.1) q.2.1 q.2.2.1) = true := by decide +kernel
def mm_k108 : List mm_I := [(0, .aload_n 0, 1, 0, 0), (1, .iload_n 1, 1, 0, 0), (2, .invokevirtual 39, 3, 0, 107), (5, .istore_n 2, 1, 0, 0), (6, .iload_n 2, 1, 0, 0), (7, .iconst (-1), 1, 0, 0), (8, .if_icmp .ne 5, 3, 0, 0), (11, .iconst (-1), 1, 0, 0), (12, .ireturn, 1, 0, 0), (13, .iconst 1, 1, 0, 0), (14, .istore_n 3, 1, 0, 0), (15, .iload_n 3, 1, 0, 0), (16, .iconst 3, 1, 0, 0), (17, .if_icmp .ge 26, 3, 0, 0), (20, .aload_n 0, 1, 0, 0), (21, .aload_n 0, 1, 0, 0), (22, .getfield 19, 3, 8, 2), (25, .iload_n 3, 1, 0, 0), (26, .iadd, 1, 0, 0), (27, .bipush 48, 2, 0, 0), (29, .bipush 57, 2, 0, 0), (31, .invokevirtual 26, 3, 0, 103), (34, .ifCond .eq 9, 3, 0, 0), (37, .iinc 3 1, 3, 0, 0), (40, .goto (-25), 3, 0, 0), (43, .aload_n 0, 1, 0, 0), (44, .iload_n 3, 1, 0, 0), (45, .invokevirtual 22, 3, 0, 102), (48, .iload_n 2, 1, 0, 0), (49, .ireturn, 1, 0, 0)]
/-- SerialGate$Tape.takenNumber(I)I -/
def mm_M108 : mm_M := (yX8_takenNumber, cX8_takenNumber, 4, (some .int), 8, false, [], [], mm_k108)
theorem mm_d108 : mm_k108.all (fun q => mm_deq (decode cX8_takenNumber q.1) q.2.1 q.2.2.1) = true := by decide +kernel
def mm_k109 : List mm_I := [(0, .aload_n 0, 1, 0, 0), (1, .getfield 15, 3, 8, 1), (4, .bipush 40, 2, 0, 0), (6, .if_icmp .gt 12, 3, 0, 0), (9, .aload_n 0, 1, 0, 0), (10, .getfield 15, 3, 8, 1), (13, .iconst 2, 1, 0, 0), (14, .irem, 1, 0, 0), (15, .ifCond .eq 5, 3, 0, 0), (18, .iconst 0, 1, 0, 0), (19, .ireturn, 1, 0, 0), (20, .iconst 0, 1, 0, 0), (21, .istore_n 1, 1, 0, 0), (22, .iload_n 1, 1, 0, 0), (23, .iconst 1, 1, 0, 0), (24, .iadd, 1, 0, 0), (25, .aload_n 0, 1, 0, 0), (26, .getfield 15, 3, 8, 1), (29, .if_icmp .ge 34, 3, 0, 0), (32, .aload_n 0, 1, 0, 0), (33, .getfield 11, 3, 8, 0), (36, .iload_n 1, 1, 0, 0), (37, .iaload, 1, 0, 0), (38, .bipush 20, 2, 0, 0), (40, .if_icmp .ge 15, 3, 0, 0), (43, .aload_n 0, 1, 0, 0), (44, .getfield 11, 3, 8, 0), (47, .iload_n 1, 1, 0, 0), (48, .iconst 1, 1, 0, 0), (49, .iadd, 1, 0, 0), (50, .iaload, 1, 0, 0), (51, .iconst 1, 1, 0, 0), (52, .if_icmp .le 5, 3, 0, 0), (55, .iconst 0, 1, 0, 0), (56, .ireturn, 1, 0, 0), (57, .iinc 1 2, 3, 0, 0), (60, .goto (-38), 3, 0, 0), (63, .iconst 1, 1, 0, 0), (64, .ireturn, 1, 0, 0)]
/-- SerialGate$Tape.tellsRows()Z -/
def mm_M109 : mm_M := (yX8_tellsRows, cX8_tellsRows, 2, (some .boolean), 8, false, [], [], mm_k109)
theorem mm_d109 : mm_k109.all (fun q => mm_deq (decode cX8_tellsRows q.1) q.2.1 q.2.2.1) = true := by decide +kernel
def mm_k110 : List mm_I := [(0, .aload_n 0, 1, 0, 0), (1, .invokespecial 3, 3, 1, 0), (4, .aload_n 0, 1, 0, 0), (5, .new 9, 3, 0, 0), (8, .dup, 1, 0, 0), (9, .invokespecial 11, 3, 0, 0), (12, .putfield 12, 3, 9, 1), (15, .aload_n 0, 1, 0, 0), (16, .new 18, 3, 0, 6), (19, .dup, 1, 0, 0), (20, .invokespecial 20, 3, 0, 62), (23, .putfield 21, 3, 9, 2), (26, .aload_n 0, 1, 0, 0), (27, .new 25, 3, 0, 1), (30, .dup, 1, 0, 0), (31, .invokespecial 27, 3, 0, 12), (34, .putfield 28, 3, 9, 3), (37, .aload_n 0, 1, 0, 0), (38, .new 32, 3, 0, 4), (41, .dup, 1, 0, 0), (42, .invokespecial 34, 3, 0, 41), (45, .putfield 35, 3, 9, 4), (48, .aload_n 0, 1, 0, 0), (49, .bipush 10, 2, 0, 0), (51, .newarray .int, 2, 0, 0), (53, .putfield 39, 3, 9, 5), (56, .aload_n 0, 1, 0, 0), (57, .bipush 10, 2, 0, 0), (59, .newarray .int, 2, 0, 0), (61, .putfield 43, 3, 9, 6), (64, .aload_n 0, 1, 0, 0), (65, .bipush 10, 2, 0, 0), (67, .newarray .int, 2, 0, 0), (69, .putfield 46, 3, 9, 7), (72, .aload_n 0, 1, 0, 0), (73, .bipush 10, 2, 0, 0), (75, .newarray .int, 2, 0, 0), (77, .putfield 49, 3, 9, 8), (80, .aload_n 0, 1, 0, 0), (81, .iconst 0, 1, 0, 0), (82, .putfield 52, 3, 9, 9), (85, .aload_n 0, 1, 0, 0), (86, .iconst 3, 1, 0, 0), (87, .putfield 56, 3, 9, 10), (90, .aload_n 0, 1, 0, 0), (91, .iconst 0, 1, 0, 0), (92, .putfield 59, 3, 9, 11), (95, .aload_n 0, 1, 0, 0), (96, .iconst 1, 1, 0, 0), (97, .putfield 62, 3, 9, 12), (100, .aload_n 0, 1, 0, 0), (101, .iconst 0, 1, 0, 0), (102, .putfield 65, 3, 9, 13), (105, .aload_n 0, 1, 0, 0), (106, .aload_n 1, 1, 0, 0), (107, .putfield 68, 3, 9, 0), (110, .return_, 1, 0, 0)]
/-- SerialGate$World.<init>(LSerialGate$Law;)V -/
def mm_M110 : mm_M := (yX9_init, cX9_init, 2, none, 9, true, [], [], mm_k110)
theorem mm_d110 : mm_k110.all (fun q => mm_deq (decode cX9_init q.1) q.2.1 q.2.2.1) = true := by decide +kernel
def mm_k111 : List mm_I := [(0, .aload_n 0, 1, 0, 0), (1, .getfield 12, 3, 9, 1), (4, .aload_n 1, 1, 0, 0), (5, .getfield 12, 3, 9, 1), (8, .invokevirtual 72, 3, 0, 1), (11, .aload_n 0, 1, 0, 0), (12, .getfield 21, 3, 9, 2), (15, .aload_n 1, 1, 0, 0), (16, .getfield 21, 3, 9, 2), (19, .invokevirtual 76, 3, 0, 63), (22, .aload_n 0, 1, 0, 0), (23, .getfield 28, 3, 9, 3), (26, .aload_n 1, 1, 0, 0), (27, .getfield 28, 3, 9, 3), (30, .invokevirtual 79, 3, 0, 13), (33, .aload_n 0, 1, 0, 0), (34, .getfield 35, 3, 9, 4), (37, .aload_n 1, 1, 0, 0), (38, .getfield 35, 3, 9, 4), (41, .invokevirtual 82, 3, 0, 42), (44, .aload_n 1, 1, 0, 0), (45, .getfield 39, 3, 9, 5), (48, .iconst 0, 1, 0, 0), (49, .aload_n 0, 1, 0, 0), (50, .getfield 39, 3, 9, 5), (53, .iconst 0, 1, 0, 0), (54, .bipush 10, 2, 0, 0), (56, .invokestatic 85, 3, 1, 0), (59, .aload_n 1, 1, 0, 0), (60, .getfield 43, 3, 9, 6), (63, .iconst 0, 1, 0, 0), (64, .aload_n 0, 1, 0, 0), (65, .getfield 43, 3, 9, 6), (68, .iconst 0, 1, 0, 0), (69, .bipush 10, 2, 0, 0), (71, .invokestatic 85, 3, 1, 0), (74, .aload_n 1, 1, 0, 0), (75, .getfield 46, 3, 9, 7), (78, .iconst 0, 1, 0, 0), (79, .aload_n 0, 1, 0, 0), (80, .getfield 46, 3, 9, 7), (83, .iconst 0, 1, 0, 0), (84, .bipush 10, 2, 0, 0), (86, .invokestatic 85, 3, 1, 0), (89, .aload_n 1, 1, 0, 0), (90, .getfield 49, 3, 9, 8), (93, .iconst 0, 1, 0, 0), (94, .aload_n 0, 1, 0, 0), (95, .getfield 49, 3, 9, 8), (98, .iconst 0, 1, 0, 0), (99, .bipush 10, 2, 0, 0), (101, .invokestatic 85, 3, 1, 0), (104, .aload_n 0, 1, 0, 0), (105, .aload_n 1, 1, 0, 0), (106, .getfield 52, 3, 9, 9), (109, .putfield 52, 3, 9, 9), (112, .aload_n 0, 1, 0, 0), (113, .aload_n 1, 1, 0, 0), (114, .getfield 56, 3, 9, 10), (117, .putfield 56, 3, 9, 10), (120, .aload_n 0, 1, 0, 0), (121, .aload_n 1, 1, 0, 0), (122, .getfield 59, 3, 9, 11), (125, .putfield 59, 3, 9, 11), (128, .aload_n 0, 1, 0, 0), (129, .aload_n 1, 1, 0, 0), (130, .getfield 62, 3, 9, 12), (133, .putfield 62, 3, 9, 12), (136, .aload_n 0, 1, 0, 0), (137, .aload_n 1, 1, 0, 0), (138, .getfield 65, 3, 9, 13), (141, .putfield 65, 3, 9, 13), (144, .return_, 1, 0, 0)]
/-- SerialGate$World.copyFrom(LSerialGate$World;)V -/
def mm_M111 : mm_M := (yX9_copyFrom, cX9_copyFrom, 2, none, 9, false, [], [], mm_k111)
theorem mm_d111 : mm_k111.all (fun q => mm_deq (decode cX9_copyFrom q.1) q.2.1 q.2.2.1) = true := by decide +kernel
def mm_k112 : List mm_I := [(0, .iconst 0, 1, 0, 0), (1, .istore_n 2, 1, 0, 0), (2, .iconst 0, 1, 0, 0), (3, .istore_n 3, 1, 0, 0), (4, .iload_n 3, 1, 0, 0), (5, .iload_n 1, 1, 0, 0), (6, .if_icmp .ge 123, 3, 0, 0), (9, .aload_n 0, 1, 0, 0), (10, .getfield 12, 3, 9, 1), (13, .getfield 91, 3, 0, 0), (16, .ifCond .le 113, 3, 0, 0), (19, .aload_n 0, 1, 0, 0), (20, .invokevirtual 94, 3, 0, 113), (23, .aload_n 0, 1, 0, 0), (24, .getfield 12, 3, 9, 1), (27, .getfield 91, 3, 0, 0), (30, .irem, 1, 0, 0), (31, .istore 4, 2, 0, 0), (33, .aload_n 0, 1, 0, 0), (34, .getfield 21, 3, 9, 2), (37, .iload 4, 2, 0, 0), (39, .invokevirtual 98, 3, 0, 71), (42, .istore 5, 2, 0, 0), (44, .aload_n 0, 1, 0, 0), (45, .iload 4, 2, 0, 0), (47, .invokevirtual 102, 3, 0, 114), (50, .istore 6, 2, 0, 0), (52, .iload 5, 2, 0, 0), (54, .iconst (-1), 1, 0, 0), (55, .if_icmp .ne 13, 3, 0, 0), (58, .aload_n 0, 1, 0, 0), (59, .iload 4, 2, 0, 0), (61, .invokevirtual 105, 3, 0, 115), (64, .pop, 1, 0, 0), (65, .goto 58, 3, 0, 0), (68, .iload 6, 2, 0, 0), (70, .sipush 200, 3, 0, 0), (73, .if_icmp .ge 17, 3, 0, 0), (76, .aload_n 0, 1, 0, 0), (77, .iload 5, 2, 0, 0), (79, .iload 6, 2, 0, 0), (81, .bipush 100, 2, 0, 0), (83, .isub, 1, 0, 0), (84, .invokevirtual 108, 3, 0, 116), (87, .goto 36, 3, 0, 0), (90, .iload 6, 2, 0, 0), (92, .sipush 300, 3, 0, 0), (95, .if_icmp .ge 18, 3, 0, 0), (98, .aload_n 0, 1, 0, 0), (99, .iload 5, 2, 0, 0), (101, .iload 6, 2, 0, 0), (103, .sipush 200, 3, 0, 0), (106, .isub, 1, 0, 0), (107, .invokevirtual 112, 3, 0, 117), (110, .goto 13, 3, 0, 0), (113, .aload_n 0, 1, 0, 0), (114, .iload 5, 2, 0, 0), (116, .invokevirtual 115, 3, 0, 118), (119, .pop, 1, 0, 0), (120, .iinc 2 1, 3, 0, 0), (123, .iinc 3 1, 3, 0, 0), (126, .goto (-122), 3, 0, 0), (129, .iload_n 2, 1, 0, 0), (130, .ireturn, 1, 0, 0)]
/-- SerialGate$World.run(I)I -/
def mm_M112 : mm_M := (yX9_run, cX9_run, 7, (some .int), 9, false, [], [], mm_k112)
theorem mm_d112 : mm_k112.all (fun q => mm_deq (decode cX9_run q.1) q.2.1 q.2.2.1) = true := by decide +kernel
def mm_k113 : List mm_I := [(0, .aload_n 0, 1, 0, 0), (1, .ldc 118, 2, 1103515245, 0), (3, .aload_n 0, 1, 0, 0), (4, .getfield 62, 3, 9, 12), (7, .imul, 1, 0, 0), (8, .sipush 12345, 3, 0, 0), (11, .iadd, 1, 0, 0), (12, .putfield 62, 3, 9, 12), (15, .aload_n 0, 1, 0, 0), (16, .getfield 62, 3, 9, 12), (19, .bipush 16, 2, 0, 0), (21, .iushr, 1, 0, 0), (22, .sipush 32767, 3, 0, 0), (25, .iand, 1, 0, 0), (26, .ireturn, 1, 0, 0)]
/-- SerialGate$World.draw()I -/
def mm_M113 : mm_M := (yX9_draw, cX9_draw, 1, (some .int), 9, false, [], [], mm_k113)
theorem mm_d113 : mm_k113.all (fun q => mm_deq (decode cX9_draw q.1) q.2.1 q.2.2.1) = true := by decide +kernel
def mm_k114 : List mm_I := [(0, .aload_n 0, 1, 0, 0), (1, .getfield 21, 3, 9, 2), (4, .iload_n 1, 1, 0, 0), (5, .invokevirtual 98, 3, 0, 71), (8, .istore_n 2, 1, 0, 0), (9, .iload_n 2, 1, 0, 0), (10, .iconst (-1), 1, 0, 0), (11, .if_icmp .ne 5, 3, 0, 0), (14, .iconst 0, 1, 0, 0), (15, .ireturn, 1, 0, 0), (16, .aload_n 0, 1, 0, 0), (17, .getfield 12, 3, 9, 1), (20, .getfield 119, 3, 0, 2), (23, .iload_n 1, 1, 0, 0), (24, .iaload, 1, 0, 0), (25, .aload_n 0, 1, 0, 0), (26, .getfield 21, 3, 9, 2), (29, .getfield 122, 3, 6, 7), (32, .iload_n 2, 1, 0, 0), (33, .iaload, 1, 0, 0), (34, .iconst (-1), 1, 0, 0), (35, .ixor, 1, 0, 0), (36, .iand, 1, 0, 0), (37, .istore_n 3, 1, 0, 0), (38, .iload_n 3, 1, 0, 0), (39, .ifCond .eq 11, 3, 0, 0), (42, .bipush 100, 2, 0, 0), (44, .iload_n 3, 1, 0, 0), (45, .invokestatic 125, 3, 0, 342), (48, .iadd, 1, 0, 0), (49, .ireturn, 1, 0, 0), (50, .aload_n 0, 1, 0, 0), (51, .getfield 12, 3, 9, 1), (54, .getfield 130, 3, 0, 3), (57, .iload_n 1, 1, 0, 0), (58, .iaload, 1, 0, 0), (59, .aload_n 0, 1, 0, 0), (60, .getfield 21, 3, 9, 2), (63, .getfield 133, 3, 6, 9), (66, .iload_n 2, 1, 0, 0), (67, .iaload, 1, 0, 0), (68, .iconst (-1), 1, 0, 0), (69, .ixor, 1, 0, 0), (70, .iand, 1, 0, 0), (71, .istore 4, 2, 0, 0), (73, .iload 4, 2, 0, 0), (75, .ifCond .ne 9, 3, 0, 0), (78, .sipush 300, 3, 0, 0), (81, .goto 12, 3, 0, 0), (84, .sipush 200, 3, 0, 0), (87, .iload 4, 2, 0, 0), (89, .invokestatic 125, 3, 0, 342), (92, .iadd, 1, 0, 0), (93, .ireturn, 1, 0, 0)]
/-- SerialGate$World.stepOf(I)I -/
def mm_M114 : mm_M := (yX9_stepOf, cX9_stepOf, 5, (some .int), 9, false, [], [], mm_k114)
theorem mm_d114 : mm_k114.all (fun q => mm_deq (decode cX9_stepOf q.1) q.2.1 q.2.2.1) = true := by decide +kernel
def mm_k115 : List mm_I := [(0, .aload_n 0, 1, 0, 0), (1, .getfield 21, 3, 9, 2), (4, .invokevirtual 136, 3, 0, 70), (7, .istore_n 2, 1, 0, 0), (8, .iload_n 2, 1, 0, 0), (9, .iconst (-1), 1, 0, 0), (10, .if_icmp .ne 5, 3, 0, 0), (13, .iconst (-1), 1, 0, 0), (14, .ireturn, 1, 0, 0), (15, .aload_n 0, 1, 0, 0), (16, .dup, 1, 0, 0), (17, .getfield 52, 3, 9, 9), (20, .iconst 1, 1, 0, 0), (21, .iadd, 1, 0, 0), (22, .putfield 52, 3, 9, 9), (25, .aload_n 0, 1, 0, 0), (26, .getfield 21, 3, 9, 2), (29, .iload_n 2, 1, 0, 0), (30, .iload_n 1, 1, 0, 0), (31, .aload_n 0, 1, 0, 0), (32, .getfield 12, 3, 9, 1), (35, .iload_n 1, 1, 0, 0), (36, .invokevirtual 139, 3, 0, 3), (39, .aload_n 0, 1, 0, 0), (40, .getfield 52, 3, 9, 9), (43, .invokevirtual 143, 3, 0, 78), (46, .aload_n 0, 1, 0, 0), (47, .getfield 39, 3, 9, 5), (50, .iconst 0, 1, 0, 0), (51, .aload_n 0, 1, 0, 0), (52, .getfield 21, 3, 9, 2), (55, .getfield 147, 3, 6, 14), (58, .iload_n 2, 1, 0, 0), (59, .bipush 10, 2, 0, 0), (61, .imul, 1, 0, 0), (62, .bipush 10, 2, 0, 0), (64, .invokestatic 85, 3, 1, 0), (67, .iload_n 2, 1, 0, 0), (68, .ireturn, 1, 0, 0)]
/-- SerialGate$World.start(I)I -/
def mm_M115 : mm_M := (yX9_start, cX9_start, 3, (some .int), 9, false, [], [], mm_k115)
theorem mm_d115 : mm_k115.all (fun q => mm_deq (decode cX9_start q.1) q.2.1 q.2.2.1) = true := by decide +kernel
def mm_k116 : List mm_I := [(0, .iconst 1, 1, 0, 0), (1, .iload_n 2, 1, 0, 0), (2, .ishl, 1, 0, 0), (3, .istore_n 3, 1, 0, 0), (4, .aload_n 0, 1, 0, 0), (5, .getfield 21, 3, 9, 2), (8, .getfield 122, 3, 6, 7), (11, .iload_n 1, 1, 0, 0), (12, .dup2, 1, 0, 0), (13, .iaload, 1, 0, 0), (14, .iload_n 3, 1, 0, 0), (15, .ior, 1, 0, 0), (16, .iastore, 1, 0, 0), (17, .aload_n 0, 1, 0, 0), (18, .getfield 21, 3, 9, 2), (21, .getfield 133, 3, 6, 9), (24, .iload_n 1, 1, 0, 0), (25, .iaload, 1, 0, 0), (26, .iload_n 3, 1, 0, 0), (27, .iand, 1, 0, 0), (28, .ifCond .ne 14, 3, 0, 0), (31, .aload_n 0, 1, 0, 0), (32, .getfield 21, 3, 9, 2), (35, .iload_n 1, 1, 0, 0), (36, .invokevirtual 150, 3, 0, 68), (39, .ifCond .eq 4, 3, 0, 0), (42, .return_, 1, 0, 0), (43, .aload_n 0, 1, 0, 0), (44, .getfield 21, 3, 9, 2), (47, .getfield 153, 3, 6, 8), (50, .iload_n 1, 1, 0, 0), (51, .dup2, 1, 0, 0), (52, .iaload, 1, 0, 0), (53, .iload_n 3, 1, 0, 0), (54, .ior, 1, 0, 0), (55, .iastore, 1, 0, 0), (56, .aload_n 0, 1, 0, 0), (57, .getfield 21, 3, 9, 2), (60, .iload_n 1, 1, 0, 0), (61, .iload_n 3, 1, 0, 0), (62, .invokevirtual 156, 3, 0, 83), (65, .aload_n 0, 1, 0, 0), (66, .getfield 46, 3, 9, 7), (69, .iload_n 2, 1, 0, 0), (70, .iaload, 1, 0, 0), (71, .aload_n 0, 1, 0, 0), (72, .getfield 21, 3, 9, 2), (75, .getfield 159, 3, 6, 5), (78, .iload_n 1, 1, 0, 0), (79, .iaload, 1, 0, 0), (80, .if_icmp .le 79, 3, 0, 0), (83, .aload_n 0, 1, 0, 0), (84, .getfield 21, 3, 9, 2), (87, .getfield 162, 3, 6, 10), (90, .iload_n 1, 1, 0, 0), (91, .aload_n 0, 1, 0, 0), (92, .getfield 21, 3, 9, 2), (95, .getfield 159, 3, 6, 5), (98, .iload_n 1, 1, 0, 0), (99, .iaload, 1, 0, 0), (100, .iconst 1, 1, 0, 0), (101, .iadd, 1, 0, 0), (102, .iastore, 1, 0, 0), (103, .aload_n 0, 1, 0, 0), (104, .getfield 21, 3, 9, 2), (107, .iload_n 1, 1, 0, 0), (108, .invokevirtual 165, 3, 0, 66), (111, .ifCond .eq 21, 3, 0, 0), (114, .aload_n 0, 1, 0, 0), (115, .getfield 49, 3, 9, 8), (118, .iload_n 2, 1, 0, 0), (119, .iaload, 1, 0, 0), (120, .aload_n 0, 1, 0, 0), (121, .getfield 21, 3, 9, 2), (124, .getfield 159, 3, 6, 5), (127, .iload_n 1, 1, 0, 0), (128, .iaload, 1, 0, 0), (129, .if_icmp .ge 7, 3, 0, 0), (132, .iconst 1, 1, 0, 0), (133, .goto 4, 3, 0, 0), (136, .iconst 0, 1, 0, 0), (137, .istore 4, 2, 0, 0), (139, .aload_n 0, 1, 0, 0), (140, .getfield 49, 3, 9, 8), (143, .iload_n 2, 1, 0, 0), (144, .iaload, 1, 0, 0), (145, .ifCond .le 14, 3, 0, 0), (148, .iload 4, 2, 0, 0), (150, .ifCond .eq 9, 3, 0, 0), (153, .aload_n 0, 1, 0, 0), (154, .iload_n 1, 1, 0, 0), (155, .iconst 1, 1, 0, 0), (156, .invokevirtual 166, 3, 0, 119), (159, .aload_n 0, 1, 0, 0), (160, .invokevirtual 169, 3, 0, 120), (163, .return_, 1, 0, 0)]
/-- SerialGate$World.lookAt(II)V -/
def mm_M116 : mm_M := (yX9_lookAt, cX9_lookAt, 5, none, 9, false, [], [], mm_k116)
theorem mm_d116 : mm_k116.all (fun q => mm_deq (decode cX9_lookAt q.1) q.2.1 q.2.2.1) = true := by decide +kernel
def mm_k117 : List mm_I := [(0, .aload_n 0, 1, 0, 0), (1, .getfield 21, 3, 9, 2), (4, .iload_n 1, 1, 0, 0), (5, .iload_n 2, 1, 0, 0), (6, .invokevirtual 172, 3, 0, 73), (9, .ifCond .eq 4, 3, 0, 0), (12, .return_, 1, 0, 0), (13, .aload_n 0, 1, 0, 0), (14, .getfield 39, 3, 9, 5), (17, .iload_n 2, 1, 0, 0), (18, .iaload, 1, 0, 0), (19, .aload_n 0, 1, 0, 0), (20, .getfield 21, 3, 9, 2), (23, .getfield 147, 3, 6, 14), (26, .iload_n 1, 1, 0, 0), (27, .bipush 10, 2, 0, 0), (29, .imul, 1, 0, 0), (30, .iload_n 2, 1, 0, 0), (31, .iadd, 1, 0, 0), (32, .iaload, 1, 0, 0), (33, .if_icmp .eq 12, 3, 0, 0), (36, .aload_n 0, 1, 0, 0), (37, .iload_n 1, 1, 0, 0), (38, .iconst 2, 1, 0, 0), (39, .invokevirtual 166, 3, 0, 119), (42, .goto 74, 3, 0, 0), (45, .aload_n 0, 1, 0, 0), (46, .getfield 21, 3, 9, 2), (49, .getfield 133, 3, 6, 9), (52, .iload_n 1, 1, 0, 0), (53, .dup2, 1, 0, 0), (54, .iaload, 1, 0, 0), (55, .iconst 1, 1, 0, 0), (56, .iload_n 2, 1, 0, 0), (57, .ishl, 1, 0, 0), (58, .ior, 1, 0, 0), (59, .iastore, 1, 0, 0), (60, .aload_n 0, 1, 0, 0), (61, .getfield 21, 3, 9, 2), (64, .iload_n 1, 1, 0, 0), (65, .iconst 1, 1, 0, 0), (66, .iload_n 2, 1, 0, 0), (67, .ishl, 1, 0, 0), (68, .invokevirtual 176, 3, 0, 84), (71, .aload_n 0, 1, 0, 0), (72, .getfield 43, 3, 9, 6), (75, .iload_n 2, 1, 0, 0), (76, .iaload, 1, 0, 0), (77, .aload_n 0, 1, 0, 0), (78, .getfield 21, 3, 9, 2), (81, .getfield 159, 3, 6, 5), (84, .iload_n 1, 1, 0, 0), (85, .iaload, 1, 0, 0), (86, .if_icmp .le 30, 3, 0, 0), (89, .aload_n 0, 1, 0, 0), (90, .getfield 21, 3, 9, 2), (93, .getfield 179, 3, 6, 11), (96, .iload_n 1, 1, 0, 0), (97, .aload_n 0, 1, 0, 0), (98, .getfield 21, 3, 9, 2), (101, .getfield 179, 3, 6, 11), (104, .iload_n 1, 1, 0, 0), (105, .iaload, 1, 0, 0), (106, .aload_n 0, 1, 0, 0), (107, .getfield 43, 3, 9, 6), (110, .iload_n 2, 1, 0, 0), (111, .iaload, 1, 0, 0), (112, .invokestatic 182, 3, 0, 344), (115, .iastore, 1, 0, 0), (116, .aload_n 0, 1, 0, 0), (117, .invokevirtual 169, 3, 0, 120), (120, .return_, 1, 0, 0)]
/-- SerialGate$World.put(II)V -/
def mm_M117 : mm_M := (yX9_put, cX9_put, 3, none, 9, false, [], [], mm_k117)
theorem mm_d117 : mm_k117.all (fun q => mm_deq (decode cX9_put q.1) q.2.1 q.2.2.1) = true := by decide +kernel
def mm_k118 : List mm_I := [(0, .aload_n 0, 1, 0, 0), (1, .iload_n 1, 1, 0, 0), (2, .invokevirtual 188, 3, 0, 123), (5, .istore_n 2, 1, 0, 0), (6, .aload_n 0, 1, 0, 0), (7, .dup, 1, 0, 0), (8, .getfield 52, 3, 9, 9), (11, .iconst 1, 1, 0, 0), (12, .iadd, 1, 0, 0), (13, .putfield 52, 3, 9, 9), (16, .aload_n 0, 1, 0, 0), (17, .getfield 52, 3, 9, 9), (20, .istore_n 3, 1, 0, 0), (21, .aload_n 0, 1, 0, 0), (22, .getfield 21, 3, 9, 2), (25, .iload_n 1, 1, 0, 0), (26, .iload_n 3, 1, 0, 0), (27, .invokevirtual 191, 3, 0, 79), (30, .iconst 0, 1, 0, 0), (31, .istore 4, 2, 0, 0), (33, .iload 4, 2, 0, 0), (35, .bipush 10, 2, 0, 0), (37, .if_icmp .ge 48, 3, 0, 0), (40, .aload_n 0, 1, 0, 0), (41, .getfield 21, 3, 9, 2), (44, .getfield 133, 3, 6, 9), (47, .iload_n 1, 1, 0, 0), (48, .iaload, 1, 0, 0), (49, .iload 4, 2, 0, 0), (51, .ishr, 1, 0, 0), (52, .iconst 1, 1, 0, 0), (53, .iand, 1, 0, 0), (54, .istore 5, 2, 0, 0), (56, .aload_n 0, 1, 0, 0), (57, .getfield 39, 3, 9, 5), (60, .iload 4, 2, 0, 0), (62, .sipush 9999, 3, 0, 0), (65, .aload_n 0, 1, 0, 0), (66, .getfield 39, 3, 9, 5), (69, .iload 4, 2, 0, 0), (71, .iaload, 1, 0, 0), (72, .iload 5, 2, 0, 0), (74, .iadd, 1, 0, 0), (75, .invokestatic 194, 3, 0, 345), (78, .iastore, 1, 0, 0), (79, .iinc 4 1, 3, 0, 0), (82, .goto (-49), 3, 0, 0), (85, .aload_n 0, 1, 0, 0), (86, .getfield 21, 3, 9, 2), (89, .getfield 197, 3, 6, 4), (92, .iload_n 1, 1, 0, 0), (93, .iaload, 1, 0, 0), (94, .istore 4, 2, 0, 0), (96, .aload_n 0, 1, 0, 0), (97, .getfield 12, 3, 9, 1), (100, .getfield 200, 3, 0, 5), (103, .iload 4, 2, 0, 0), (105, .dup2, 1, 0, 0), (106, .iaload, 1, 0, 0), (107, .iconst 1, 1, 0, 0), (108, .iadd, 1, 0, 0), (109, .iastore, 1, 0, 0), (110, .aload_n 0, 1, 0, 0), (111, .getfield 12, 3, 9, 1), (114, .getfield 203, 3, 0, 4), (117, .iload 4, 2, 0, 0), (119, .iconst 0, 1, 0, 0), (120, .iastore, 1, 0, 0), (121, .aload_n 0, 1, 0, 0), (122, .sipush 9999, 3, 0, 0), (125, .aload_n 0, 1, 0, 0), (126, .getfield 59, 3, 9, 11), (129, .iload_n 2, 1, 0, 0), (130, .iadd, 1, 0, 0), (131, .invokestatic 194, 3, 0, 345), (134, .putfield 59, 3, 9, 11), (137, .aload_n 0, 1, 0, 0), (138, .getfield 28, 3, 9, 3), (141, .aload_n 0, 1, 0, 0), (142, .getfield 21, 3, 9, 2), (145, .iload_n 1, 1, 0, 0), (146, .aload_n 0, 1, 0, 0), (147, .getfield 39, 3, 9, 5), (150, .invokevirtual 206, 3, 0, 15), (153, .aload_n 0, 1, 0, 0), (154, .getfield 35, 3, 9, 4), (157, .aload_n 0, 1, 0, 0), (158, .getfield 52, 3, 9, 9), (161, .iload 4, 2, 0, 0), (163, .iconst 0, 1, 0, 0), (164, .iload_n 1, 1, 0, 0), (165, .invokevirtual 210, 3, 0, 43), (168, .aload_n 0, 1, 0, 0), (169, .getfield 21, 3, 9, 2), (172, .iload_n 1, 1, 0, 0), (173, .invokevirtual 213, 3, 0, 85), (176, .aload_n 0, 1, 0, 0), (177, .invokevirtual 169, 3, 0, 120), (180, .iload_n 3, 1, 0, 0), (181, .ireturn, 1, 0, 0)]
/-- SerialGate$World.finish(I)I -/
def mm_M118 : mm_M := (yX9_finish, cX9_finish, 6, (some .int), 9, false, [], [], mm_k118)
theorem mm_d118 : mm_k118.all (fun q => mm_deq (decode cX9_finish q.1) q.2.1 q.2.2.1) = true := by decide +kernel
def mm_k119 : List mm_I := [(0, .aload_n 0, 1, 0, 0), (1, .getfield 21, 3, 9, 2), (4, .getfield 197, 3, 6, 4), (7, .iload_n 1, 1, 0, 0), (8, .iaload, 1, 0, 0), (9, .istore_n 3, 1, 0, 0), (10, .aload_n 0, 1, 0, 0), (11, .getfield 35, 3, 9, 4), (14, .aload_n 0, 1, 0, 0), (15, .getfield 52, 3, 9, 9), (18, .iload_n 3, 1, 0, 0), (19, .iload_n 2, 1, 0, 0), (20, .iload_n 1, 1, 0, 0), (21, .invokevirtual 210, 3, 0, 43), (24, .aload_n 0, 1, 0, 0), (25, .getfield 12, 3, 9, 1), (28, .getfield 203, 3, 0, 4), (31, .iload_n 3, 1, 0, 0), (32, .bipush 99, 2, 0, 0), (34, .aload_n 0, 1, 0, 0), (35, .getfield 12, 3, 9, 1), (38, .getfield 203, 3, 0, 4), (41, .iload_n 3, 1, 0, 0), (42, .iaload, 1, 0, 0), (43, .iconst 1, 1, 0, 0), (44, .iadd, 1, 0, 0), (45, .invokestatic 194, 3, 0, 345), (48, .iastore, 1, 0, 0), (49, .aload_n 0, 1, 0, 0), (50, .getfield 21, 3, 9, 2), (53, .iload_n 1, 1, 0, 0), (54, .invokevirtual 217, 3, 0, 80), (57, .return_, 1, 0, 0)]
/-- SerialGate$World.drop(II)V -/
def mm_M119 : mm_M := (yX9_drop, cX9_drop, 4, none, 9, false, [], [], mm_k119)
theorem mm_d119 : mm_k119.all (fun q => mm_deq (decode cX9_drop q.1) q.2.1 q.2.2.1) = true := by decide +kernel
end
section
def mm_k120 : List mm_I := [(0, .iconst 0, 1, 0, 0), (1, .istore_n 1, 1, 0, 0), (2, .iload_n 1, 1, 0, 0), (3, .bipush 8, 2, 0, 0), (5, .if_icmp .ge 43, 3, 0, 0), (8, .aload_n 0, 1, 0, 0), (9, .getfield 21, 3, 9, 2), (12, .invokevirtual 220, 3, 0, 86), (15, .istore_n 2, 1, 0, 0), (16, .iload_n 2, 1, 0, 0), (17, .iconst (-1), 1, 0, 0), (18, .if_icmp .ne 6, 3, 0, 0), (21, .goto 27, 3, 0, 0), (24, .aload_n 0, 1, 0, 0), (25, .aload_n 0, 1, 0, 0), (26, .aload_n 0, 1, 0, 0), (27, .getfield 21, 3, 9, 2), (30, .iload_n 2, 1, 0, 0), (31, .invokevirtual 223, 3, 0, 87), (34, .iload_n 2, 1, 0, 0), (35, .invokevirtual 226, 3, 0, 121), (38, .iconst 3, 1, 0, 0), (39, .invokevirtual 166, 3, 0, 119), (42, .iinc 1 1, 3, 0, 0), (45, .goto (-43), 3, 0, 0), (48, .aload_n 0, 1, 0, 0), (49, .invokevirtual 229, 3, 0, 125), (52, .return_, 1, 0, 0)]
/-- SerialGate$World.settle()V -/
def mm_M120 : mm_M := (yX9_settle, cX9_settle, 3, none, 9, false, [], [], mm_k120)
theorem mm_d120 : mm_k120.all (fun q => mm_deq (decode cX9_settle q.1) q.2.1 q.2.2.1) = true := by decide +kernel
def mm_k121 : List mm_I := [(0, .iload_n 1, 1, 0, 0), (1, .ifCond .lt 14, 3, 0, 0), (4, .aload_n 0, 1, 0, 0), (5, .getfield 21, 3, 9, 2), (8, .iload_n 1, 1, 0, 0), (9, .invokevirtual 232, 3, 0, 64), (12, .ifCond .ne 5, 3, 0, 0), (15, .iload_n 2, 1, 0, 0), (16, .ireturn, 1, 0, 0), (17, .aload_n 0, 1, 0, 0), (18, .getfield 21, 3, 9, 2), (21, .iload_n 2, 1, 0, 0), (22, .invokevirtual 232, 3, 0, 64), (25, .ifCond .ne 5, 3, 0, 0), (28, .iload_n 1, 1, 0, 0), (29, .ireturn, 1, 0, 0), (30, .aload_n 0, 1, 0, 0), (31, .iload_n 1, 1, 0, 0), (32, .invokevirtual 235, 3, 0, 122), (35, .aload_n 0, 1, 0, 0), (36, .iload_n 2, 1, 0, 0), (37, .invokevirtual 235, 3, 0, 122), (40, .if_icmp .le 7, 3, 0, 0), (43, .iload_n 1, 1, 0, 0), (44, .goto 4, 3, 0, 0), (47, .iload_n 2, 1, 0, 0), (48, .ireturn, 1, 0, 0)]
/-- SerialGate$World.victim(II)I -/
def mm_M121 : mm_M := (yX9_victim, cX9_victim, 3, (some .int), 9, false, [], [], mm_k121)
theorem mm_d121 : mm_k121.all (fun q => mm_deq (decode cX9_victim q.1) q.2.1 q.2.2.1) = true := by decide +kernel
def mm_k122 : List mm_I := [(0, .aload_n 0, 1, 0, 0), (1, .iload_n 1, 1, 0, 0), (2, .invokevirtual 238, 3, 0, 124), (5, .iconst 0, 1, 0, 0), (6, .bipush 10, 2, 0, 0), (8, .aload_n 0, 1, 0, 0), (9, .getfield 68, 3, 9, 0), (12, .iconst 0, 1, 0, 0), (13, .invokevirtual 243, 3, 0, 25), (16, .iadd, 1, 0, 0), (17, .aload_n 0, 1, 0, 0), (18, .getfield 68, 3, 9, 0), (21, .iconst 1, 1, 0, 0), (22, .invokevirtual 243, 3, 0, 25), (25, .isub, 1, 0, 0), (26, .invokestatic 182, 3, 0, 344), (29, .ireturn, 1, 0, 0)]
/-- SerialGate$World.blameOf(I)I -/
def mm_M122 : mm_M := (yX9_blameOf, cX9_blameOf, 2, (some .int), 9, false, [], [], mm_k122)
theorem mm_d122 : mm_k122.all (fun q => mm_deq (decode cX9_blameOf q.1) q.2.1 q.2.2.1) = true := by decide +kernel
def mm_k123 : List mm_I := [(0, .aload_n 0, 1, 0, 0), (1, .iload_n 1, 1, 0, 0), (2, .invokevirtual 238, 3, 0, 124), (5, .iconst 1, 1, 0, 0), (6, .aload_n 0, 1, 0, 0), (7, .getfield 68, 3, 9, 0), (10, .iconst 2, 1, 0, 0), (11, .invokevirtual 243, 3, 0, 25), (14, .iadd, 1, 0, 0), (15, .ireturn, 1, 0, 0)]
/-- SerialGate$World.payOf(I)I -/
def mm_M123 : mm_M := (yX9_payOf, cX9_payOf, 2, (some .int), 9, false, [], [], mm_k123)
theorem mm_d123 : mm_k123.all (fun q => mm_deq (decode cX9_payOf q.1) q.2.1 q.2.2.1) = true := by decide +kernel
def mm_k124 : List mm_I := [(0, .aload_n 0, 1, 0, 0), (1, .getfield 21, 3, 9, 2), (4, .getfield 197, 3, 6, 4), (7, .iload_n 1, 1, 0, 0), (8, .iaload, 1, 0, 0), (9, .istore_n 2, 1, 0, 0), (10, .aload_n 0, 1, 0, 0), (11, .getfield 68, 3, 9, 0), (14, .getfield 246, 3, 2, 6), (17, .iconst 0, 1, 0, 0), (18, .iload_n 1, 1, 0, 0), (19, .iastore, 1, 0, 0), (20, .aload_n 0, 1, 0, 0), (21, .getfield 68, 3, 9, 0), (24, .getfield 246, 3, 2, 6), (27, .iconst 1, 1, 0, 0), (28, .iload_n 2, 1, 0, 0), (29, .iastore, 1, 0, 0), (30, .aload_n 0, 1, 0, 0), (31, .getfield 68, 3, 9, 0), (34, .getfield 246, 3, 2, 6), (37, .iconst 2, 1, 0, 0), (38, .aload_n 0, 1, 0, 0), (39, .getfield 52, 3, 9, 9), (42, .aload_n 0, 1, 0, 0), (43, .getfield 21, 3, 9, 2), (46, .getfield 159, 3, 6, 5), (49, .iload_n 1, 1, 0, 0), (50, .iaload, 1, 0, 0), (51, .isub, 1, 0, 0), (52, .iastore, 1, 0, 0), (53, .aload_n 0, 1, 0, 0), (54, .getfield 68, 3, 9, 0), (57, .getfield 246, 3, 2, 6), (60, .iconst 3, 1, 0, 0), (61, .aload_n 0, 1, 0, 0), (62, .getfield 21, 3, 9, 2), (65, .getfield 153, 3, 6, 8), (68, .iload_n 1, 1, 0, 0), (69, .iaload, 1, 0, 0), (70, .invokestatic 249, 3, 0, 343), (73, .iastore, 1, 0, 0), (74, .aload_n 0, 1, 0, 0), (75, .getfield 68, 3, 9, 0), (78, .getfield 246, 3, 2, 6), (81, .iconst 4, 1, 0, 0), (82, .aload_n 0, 1, 0, 0), (83, .getfield 21, 3, 9, 2), (86, .getfield 133, 3, 6, 9), (89, .iload_n 1, 1, 0, 0), (90, .iaload, 1, 0, 0), (91, .invokestatic 249, 3, 0, 343), (94, .iastore, 1, 0, 0), (95, .aload_n 0, 1, 0, 0), (96, .getfield 68, 3, 9, 0), (99, .getfield 246, 3, 2, 6), (102, .iconst 5, 1, 0, 0), (103, .aload_n 0, 1, 0, 0), (104, .getfield 12, 3, 9, 1), (107, .getfield 203, 3, 0, 4), (110, .iload_n 2, 1, 0, 0), (111, .iaload, 1, 0, 0), (112, .iastore, 1, 0, 0), (113, .aload_n 0, 1, 0, 0), (114, .getfield 68, 3, 9, 0), (117, .getfield 246, 3, 2, 6), (120, .bipush 6, 2, 0, 0), (122, .aload_n 0, 1, 0, 0), (123, .getfield 52, 3, 9, 9), (126, .bipush 100, 2, 0, 0), (128, .irem, 1, 0, 0), (129, .iastore, 1, 0, 0), (130, .aload_n 0, 1, 0, 0), (131, .getfield 68, 3, 9, 0), (134, .getfield 246, 3, 2, 6), (137, .bipush 7, 2, 0, 0), (139, .aload_n 0, 1, 0, 0), (140, .getfield 21, 3, 9, 2), (143, .iload_n 1, 1, 0, 0), (144, .invokevirtual 165, 3, 0, 66), (147, .ifCond .eq 7, 3, 0, 0), (150, .iconst 1, 1, 0, 0), (151, .goto 4, 3, 0, 0), (154, .iconst 0, 1, 0, 0), (155, .iastore, 1, 0, 0), (156, .aload_n 0, 1, 0, 0), (157, .getfield 68, 3, 9, 0), (160, .getfield 246, 3, 2, 6), (163, .bipush 8, 2, 0, 0), (165, .aload_n 0, 1, 0, 0), (166, .getfield 21, 3, 9, 2), (169, .iload_n 1, 1, 0, 0), (170, .invokevirtual 252, 3, 0, 69), (173, .ifCond .eq 7, 3, 0, 0), (176, .iconst 1, 1, 0, 0), (177, .goto 4, 3, 0, 0), (180, .iconst 0, 1, 0, 0), (181, .iastore, 1, 0, 0), (182, .aload_n 0, 1, 0, 0), (183, .getfield 68, 3, 9, 0), (186, .getfield 246, 3, 2, 6), (189, .bipush 9, 2, 0, 0), (191, .aload_n 0, 1, 0, 0), (192, .getfield 12, 3, 9, 1), (195, .getfield 203, 3, 0, 4), (198, .iload_n 2, 1, 0, 0), (199, .iaload, 1, 0, 0), (200, .ifCond .le 7, 3, 0, 0), (203, .iconst 1, 1, 0, 0), (204, .goto 4, 3, 0, 0), (207, .iconst 0, 1, 0, 0), (208, .iastore, 1, 0, 0), (209, .return_, 1, 0, 0)]
/-- SerialGate$World.tellLaw(I)V -/
def mm_M124 : mm_M := (yX9_tellLaw, cX9_tellLaw, 3, none, 9, false, [], [], mm_k124)
theorem mm_d124 : mm_k124.all (fun q => mm_deq (decode cX9_tellLaw q.1) q.2.1 q.2.2.1) = true := by decide +kernel
def mm_k125 : List mm_I := [(0, .aload_n 0, 1, 0, 0), (1, .getfield 21, 3, 9, 2), (4, .invokevirtual 255, 3, 0, 74), (7, .istore_n 1, 1, 0, 0), (8, .iconst 0, 1, 0, 0), (9, .istore_n 2, 1, 0, 0), (10, .iload_n 2, 1, 0, 0), (11, .bipush 8, 2, 0, 0), (13, .if_icmp .ge 69, 3, 0, 0), (16, .aload_n 0, 1, 0, 0), (17, .getfield 21, 3, 9, 2), (20, .invokevirtual 258, 3, 0, 75), (23, .istore_n 3, 1, 0, 0), (24, .iload_n 3, 1, 0, 0), (25, .iconst (-1), 1, 0, 0), (26, .if_icmp .eq 56, 3, 0, 0), (29, .aload_n 0, 1, 0, 0), (30, .getfield 21, 3, 9, 2), (33, .getfield 261, 3, 6, 6), (36, .iload_n 3, 1, 0, 0), (37, .iaload, 1, 0, 0), (38, .iload_n 1, 1, 0, 0), (39, .if_icmp .lt 6, 3, 0, 0), (42, .goto 40, 3, 0, 0), (45, .aload_n 0, 1, 0, 0), (46, .getfield 35, 3, 9, 4), (49, .aload_n 0, 1, 0, 0), (50, .getfield 52, 3, 9, 9), (53, .aload_n 0, 1, 0, 0), (54, .getfield 21, 3, 9, 2), (57, .getfield 197, 3, 6, 4), (60, .iload_n 3, 1, 0, 0), (61, .iaload, 1, 0, 0), (62, .bipush 6, 2, 0, 0), (64, .iload_n 3, 1, 0, 0), (65, .invokevirtual 210, 3, 0, 43), (68, .aload_n 0, 1, 0, 0), (69, .getfield 21, 3, 9, 2), (72, .iload_n 3, 1, 0, 0), (73, .invokevirtual 264, 3, 0, 81), (76, .iinc 2 1, 3, 0, 0), (79, .goto (-69), 3, 0, 0), (82, .iconst 0, 1, 0, 0), (83, .istore_n 2, 1, 0, 0), (84, .iload_n 2, 1, 0, 0), (85, .bipush 8, 2, 0, 0), (87, .if_icmp .ge 77, 3, 0, 0), (90, .aload_n 0, 1, 0, 0), (91, .getfield 21, 3, 9, 2), (94, .getfield 267, 3, 6, 1), (97, .invokestatic 249, 3, 0, 343), (100, .aload_n 0, 1, 0, 0), (101, .getfield 56, 3, 9, 10), (104, .if_icmp .le 60, 3, 0, 0), (107, .aload_n 0, 1, 0, 0), (108, .getfield 21, 3, 9, 2), (111, .invokevirtual 258, 3, 0, 75), (114, .istore_n 3, 1, 0, 0), (115, .iload_n 3, 1, 0, 0), (116, .iconst (-1), 1, 0, 0), (117, .if_icmp .ne 6, 3, 0, 0), (120, .goto 44, 3, 0, 0), (123, .aload_n 0, 1, 0, 0), (124, .iload_n 3, 1, 0, 0), (125, .invokevirtual 270, 3, 0, 126), (128, .aload_n 0, 1, 0, 0), (129, .getfield 35, 3, 9, 4), (132, .aload_n 0, 1, 0, 0), (133, .getfield 52, 3, 9, 9), (136, .aload_n 0, 1, 0, 0), (137, .getfield 21, 3, 9, 2), (140, .getfield 197, 3, 6, 4), (143, .iload_n 3, 1, 0, 0), (144, .iaload, 1, 0, 0), (145, .iconst 5, 1, 0, 0), (146, .iload_n 3, 1, 0, 0), (147, .invokevirtual 210, 3, 0, 43), (150, .aload_n 0, 1, 0, 0), (151, .getfield 21, 3, 9, 2), (154, .iload_n 3, 1, 0, 0), (155, .invokevirtual 264, 3, 0, 81), (158, .iinc 2 1, 3, 0, 0), (161, .goto (-77), 3, 0, 0), (164, .return_, 1, 0, 0)]
/-- SerialGate$World.tidy()V -/
def mm_M125 : mm_M := (yX9_tidy, cX9_tidy, 4, none, 9, false, [], [], mm_k125)
theorem mm_d125 : mm_k125.all (fun q => mm_deq (decode cX9_tidy q.1) q.2.1 q.2.2.1) = true := by decide +kernel
def mm_k126 : List mm_I := [(0, .aload_n 0, 1, 0, 0), (1, .getfield 21, 3, 9, 2), (4, .getfield 261, 3, 6, 6), (7, .iload_n 1, 1, 0, 0), (8, .iaload, 1, 0, 0), (9, .istore_n 2, 1, 0, 0), (10, .aload_n 0, 1, 0, 0), (11, .getfield 21, 3, 9, 2), (14, .iload_n 1, 1, 0, 0), (15, .invokevirtual 273, 3, 0, 76), (18, .istore_n 3, 1, 0, 0), (19, .iload_n 3, 1, 0, 0), (20, .ifCond .le 12, 3, 0, 0), (23, .iload_n 3, 1, 0, 0), (24, .iload_n 2, 1, 0, 0), (25, .if_icmp .ge 7, 3, 0, 0), (28, .iconst 1, 1, 0, 0), (29, .goto 4, 3, 0, 0), (32, .iconst 0, 1, 0, 0), (33, .istore 4, 2, 0, 0), (35, .iconst 0, 1, 0, 0), (36, .istore 5, 2, 0, 0), (38, .iload 5, 2, 0, 0), (40, .bipush 10, 2, 0, 0), (42, .if_icmp .ge 113, 3, 0, 0), (45, .aload_n 0, 1, 0, 0), (46, .getfield 21, 3, 9, 2), (49, .getfield 153, 3, 6, 8), (52, .iload_n 1, 1, 0, 0), (53, .iaload, 1, 0, 0), (54, .iload 5, 2, 0, 0), (56, .ishr, 1, 0, 0), (57, .iconst 1, 1, 0, 0), (58, .iand, 1, 0, 0), (59, .ifCond .eq 21, 3, 0, 0), (62, .aload_n 0, 1, 0, 0), (63, .getfield 43, 3, 9, 6), (66, .iload 5, 2, 0, 0), (68, .aload_n 0, 1, 0, 0), (69, .getfield 43, 3, 9, 6), (72, .iload 5, 2, 0, 0), (74, .iaload, 1, 0, 0), (75, .iload_n 2, 1, 0, 0), (76, .invokestatic 182, 3, 0, 344), (79, .iastore, 1, 0, 0), (80, .aload_n 0, 1, 0, 0), (81, .getfield 21, 3, 9, 2), (84, .getfield 133, 3, 6, 9), (87, .iload_n 1, 1, 0, 0), (88, .iaload, 1, 0, 0), (89, .iload 5, 2, 0, 0), (91, .ishr, 1, 0, 0), (92, .iconst 1, 1, 0, 0), (93, .iand, 1, 0, 0), (94, .ifCond .eq 55, 3, 0, 0), (97, .aload_n 0, 1, 0, 0), (98, .getfield 46, 3, 9, 7), (101, .iload 5, 2, 0, 0), (103, .aload_n 0, 1, 0, 0), (104, .getfield 46, 3, 9, 7), (107, .iload 5, 2, 0, 0), (109, .iaload, 1, 0, 0), (110, .iload_n 2, 1, 0, 0), (111, .invokestatic 182, 3, 0, 344), (114, .iastore, 1, 0, 0), (115, .iload 4, 2, 0, 0), (117, .ifCond .eq 32, 3, 0, 0), (120, .aload_n 0, 1, 0, 0), (121, .getfield 49, 3, 9, 8), (124, .iload 5, 2, 0, 0), (126, .iaload, 1, 0, 0), (127, .ifCond .eq 14, 3, 0, 0), (130, .aload_n 0, 1, 0, 0), (131, .getfield 49, 3, 9, 8), (134, .iload 5, 2, 0, 0), (136, .iaload, 1, 0, 0), (137, .iload_n 3, 1, 0, 0), (138, .if_icmp .le 11, 3, 0, 0), (141, .aload_n 0, 1, 0, 0), (142, .getfield 49, 3, 9, 8), (145, .iload 5, 2, 0, 0), (147, .iload_n 3, 1, 0, 0), (148, .iastore, 1, 0, 0), (149, .iinc 5 1, 3, 0, 0), (152, .goto (-114), 3, 0, 0), (155, .return_, 1, 0, 0)]
/-- SerialGate$World.summarise(I)V -/
def mm_M126 : mm_M := (yX9_summarise, cX9_summarise, 6, none, 9, false, [], [], mm_k126)
theorem mm_d126 : mm_k126.all (fun q => mm_deq (decode cX9_summarise q.1) q.2.1 q.2.2.1) = true := by decide +kernel
def mm_k127 : List mm_I := [(0, .aload_n 0, 1, 0, 0), (1, .invokespecial 1, 3, 1, 0), (4, .aload_n 0, 1, 0, 0), (5, .new 7, 3, 0, 8), (8, .dup, 1, 0, 0), (9, .invokespecial 9, 3, 0, 97), (12, .putfield 10, 3, 10, 0), (15, .aload_n 0, 1, 0, 0), (16, .new 16, 3, 0, 2), (19, .dup, 1, 0, 0), (20, .invokespecial 18, 3, 0, 20), (23, .putfield 19, 3, 10, 1), (26, .aload_n 0, 1, 0, 0), (27, .new 16, 3, 0, 2), (30, .dup, 1, 0, 0), (31, .invokespecial 18, 3, 0, 20), (34, .putfield 23, 3, 10, 2), (37, .aload_n 0, 1, 0, 0), (38, .new 26, 3, 0, 3), (41, .dup, 1, 0, 0), (42, .aload_n 0, 1, 0, 0), (43, .getfield 10, 3, 10, 0), (46, .invokespecial 28, 3, 0, 27), (49, .putfield 31, 3, 10, 3), (52, .aload_n 0, 1, 0, 0), (53, .new 35, 3, 0, 9), (56, .dup, 1, 0, 0), (57, .aload_n 0, 1, 0, 0), (58, .getfield 19, 3, 10, 1), (61, .invokespecial 37, 3, 0, 110), (64, .putfield 40, 3, 10, 4), (67, .aload_n 0, 1, 0, 0), (68, .new 35, 3, 0, 9), (71, .dup, 1, 0, 0), (72, .aload_n 0, 1, 0, 0), (73, .getfield 19, 3, 10, 1), (76, .invokespecial 37, 3, 0, 110), (79, .putfield 44, 3, 10, 5), (82, .aload_n 0, 1, 0, 0), (83, .new 35, 3, 0, 9), (86, .dup, 1, 0, 0), (87, .aload_n 0, 1, 0, 0), (88, .getfield 19, 3, 10, 1), (91, .invokespecial 37, 3, 0, 110), (94, .putfield 47, 3, 10, 6), (97, .aload_n 0, 1, 0, 0), (98, .new 50, 3, 0, 7), (101, .dup, 1, 0, 0), (102, .aload_n 0, 1, 0, 0), (103, .getfield 10, 3, 10, 0), (106, .invokespecial 52, 3, 0, 91), (109, .putfield 53, 3, 10, 7), (112, .aload_n 0, 1, 0, 0), (113, .new 57, 3, 0, 5), (116, .dup, 1, 0, 0), (117, .aload_n 0, 1, 0, 0), (118, .getfield 40, 3, 10, 4), (121, .getfield 59, 3, 9, 1), (124, .invokespecial 63, 3, 0, 48), (127, .putfield 66, 3, 10, 8), (130, .aload_n 0, 1, 0, 0), (131, .bipush 12, 2, 0, 0), (133, .anewarray 35, 3, 0, 0), (136, .putfield 70, 3, 10, 9), (139, .aload_n 0, 1, 0, 0), (140, .iconst 0, 1, 0, 0), (141, .putfield 74, 3, 10, 10), (144, .aload_n 0, 1, 0, 0), (145, .iconst 0, 1, 0, 0), (146, .putfield 78, 3, 10, 11), (149, .aload_n 0, 1, 0, 0), (150, .iconst 0, 1, 0, 0), (151, .putfield 81, 3, 10, 12), (154, .aload_n 0, 1, 0, 0), (155, .iconst (-1), 1, 0, 0), (156, .putfield 85, 3, 10, 13), (159, .iconst 0, 1, 0, 0), (160, .istore_n 1, 1, 0, 0), (161, .iload_n 1, 1, 0, 0), (162, .bipush 12, 2, 0, 0), (164, .if_icmp .ge 26, 3, 0, 0), (167, .aload_n 0, 1, 0, 0), (168, .getfield 70, 3, 10, 9), (171, .iload_n 1, 1, 0, 0), (172, .new 35, 3, 0, 9), (175, .dup, 1, 0, 0), (176, .aload_n 0, 1, 0, 0), (177, .getfield 19, 3, 10, 1), (180, .invokespecial 37, 3, 0, 110), (183, .aastore, 1, 0, 0), (184, .iinc 1 1, 3, 0, 0), (187, .goto (-26), 3, 0, 0), (190, .return_, 1, 0, 0)]
/-- SerialGate.<init>()V -/
def mm_M127 : mm_M := (yX10_init, cX10_init, 2, none, 10, true, [], [], mm_k127)
theorem mm_d127 : mm_k127.all (fun q => mm_deq (decode cX10_init q.1) q.2.1 q.2.2.1) = true := by decide +kernel
def mm_k128 : List mm_I := [(0, .aload_n 0, 1, 0, 0), (1, .getfield 10, 3, 10, 0), (4, .getfield 88, 3, 8, 1), (7, .bipush 20, 2, 0, 0), (9, .iadd, 1, 0, 0), (10, .sipush 400, 3, 0, 0), (13, .if_icmp .le 5, 3, 0, 0), (16, .iconst (-1), 1, 0, 0), (17, .ireturn, 1, 0, 0), (18, .aload_n 0, 1, 0, 0), (19, .getfield 10, 3, 10, 0), (22, .iload_n 1, 1, 0, 0), (23, .invokevirtual 91, 3, 0, 98), (26, .aload_n 0, 1, 0, 0), (27, .getfield 10, 3, 10, 0), (30, .iload_n 2, 1, 0, 0), (31, .invokevirtual 91, 3, 0, 98), (34, .aload_n 0, 1, 0, 0), (35, .getfield 10, 3, 10, 0), (38, .iload_n 3, 1, 0, 0), (39, .invokevirtual 91, 3, 0, 98), (42, .aload_n 0, 1, 0, 0), (43, .getfield 10, 3, 10, 0), (46, .iload 4, 2, 0, 0), (48, .invokevirtual 91, 3, 0, 98), (51, .aload_n 0, 1, 0, 0), (52, .getfield 10, 3, 10, 0), (55, .iload 5, 2, 0, 0), (57, .invokevirtual 91, 3, 0, 98), (60, .aload_n 0, 1, 0, 0), (61, .getfield 10, 3, 10, 0), (64, .getfield 88, 3, 8, 1), (67, .ireturn, 1, 0, 0)]
/-- SerialGate.feed(IIIII)I -/
def mm_M128 : mm_M := (yX10_feed, cX10_feed, 6, (some .int), 10, false, [], [], mm_k128)
theorem mm_d128 : mm_k128.all (fun q => mm_deq (decode cX10_feed q.1) q.2.1 q.2.2.1) = true := by decide +kernel
def mm_k129 : List mm_I := [(0, .iload_n 1, 1, 0, 0), (1, .ifCond .lt 14, 3, 0, 0), (4, .iload_n 1, 1, 0, 0), (5, .aload_n 0, 1, 0, 0), (6, .getfield 10, 3, 10, 0), (9, .getfield 88, 3, 8, 1), (12, .if_icmp .le 5, 3, 0, 0), (15, .iconst 0, 1, 0, 0), (16, .ireturn, 1, 0, 0), (17, .aload_n 0, 1, 0, 0), (18, .getfield 10, 3, 10, 0), (21, .iload_n 1, 1, 0, 0), (22, .putfield 88, 3, 8, 1), (25, .iconst 1, 1, 0, 0), (26, .ireturn, 1, 0, 0)]
/-- SerialGate.end(I)Z -/
def mm_M129 : mm_M := (yX10_end, cX10_end, 2, (some .boolean), 10, false, [], [], mm_k129)
theorem mm_d129 : mm_k129.all (fun q => mm_deq (decode cX10_end q.1) q.2.1 q.2.2.1) = true := by decide +kernel
def mm_k130 : List mm_I := [(0, .aload_n 0, 1, 0, 0), (1, .getfield 44, 3, 10, 5), (4, .aload_n 0, 1, 0, 0), (5, .getfield 40, 3, 10, 4), (8, .invokevirtual 95, 3, 0, 111), (11, .aload_n 0, 1, 0, 0), (12, .getfield 53, 3, 10, 7), (15, .aload_n 0, 1, 0, 0), (16, .getfield 44, 3, 10, 5), (19, .invokevirtual 99, 3, 0, 92), (22, .istore_n 1, 1, 0, 0), (23, .aload_n 0, 1, 0, 0), (24, .iload_n 1, 1, 0, 0), (25, .invokevirtual 103, 3, 0, 133), (28, .iload_n 1, 1, 0, 0), (29, .ifCond .ne 13, 3, 0, 0), (32, .new 107, 3, 1, 0), (35, .dup, 1, 0, 0), (36, .ldc 109, 2, 0, 8), (38, .invokespecial 111, 3, 99, 0), (41, .athrow, 1, 0, 0), (42, .aload_n 0, 1, 0, 0), (43, .getfield 40, 3, 10, 4), (46, .getfield 114, 3, 9, 13), (49, .bipush 12, 2, 0, 0), (51, .if_icmp .lt 13, 3, 0, 0), (54, .new 117, 3, 1, 1), (57, .dup, 1, 0, 0), (58, .ldc 119, 2, 0, 9), (60, .invokespecial 121, 3, 99, 0), (63, .athrow, 1, 0, 0), (64, .aload_n 0, 1, 0, 0), (65, .getfield 40, 3, 10, 4), (68, .aload_n 0, 1, 0, 0), (69, .getfield 44, 3, 10, 5), (72, .invokevirtual 95, 3, 0, 111), (75, .aload_n 0, 1, 0, 0), (76, .getfield 40, 3, 10, 4), (79, .dup, 1, 0, 0), (80, .getfield 114, 3, 9, 13), (83, .iconst 1, 1, 0, 0), (84, .iadd, 1, 0, 0), (85, .putfield 114, 3, 9, 13), (88, .aload_n 0, 1, 0, 0), (89, .getfield 40, 3, 10, 4), (92, .invokevirtual 122, 3, 0, 125), (95, .aload_n 0, 1, 0, 0), (96, .invokevirtual 125, 3, 0, 178), (99, .aload_n 0, 1, 0, 0), (100, .getfield 40, 3, 10, 4), (103, .getfield 114, 3, 9, 13), (106, .ireturn, 1, 0, 0)]
/-- SerialGate.store()I -/
def mm_M130 : mm_M := (yX10_store, cX10_store, 2, (some .int), 10, false, [], [], mm_k130)
theorem mm_d130 : mm_k130.all (fun q => mm_deq (decode cX10_store q.1) q.2.1 q.2.2.1) = true := by decide +kernel
def mm_k131 : List mm_I := [(0, .aload_n 0, 1, 0, 0), (1, .getfield 31, 3, 10, 3), (4, .invokevirtual 128, 3, 0, 28), (7, .istore_n 1, 1, 0, 0), (8, .aload_n 0, 1, 0, 0), (9, .iload_n 1, 1, 0, 0), (10, .invokevirtual 103, 3, 0, 133), (13, .iload_n 1, 1, 0, 0), (14, .ifCond .ne 13, 3, 0, 0), (17, .new 107, 3, 1, 2), (20, .dup, 1, 0, 0), (21, .ldc 109, 2, 0, 8), (23, .invokespecial 111, 3, 99, 0), (26, .athrow, 1, 0, 0), (27, .aload_n 0, 1, 0, 0), (28, .getfield 19, 3, 10, 1), (31, .aload_n 0, 1, 0, 0), (32, .getfield 31, 3, 10, 3), (35, .getfield 131, 3, 3, 0), (38, .invokevirtual 134, 3, 0, 21), (41, .aload_n 0, 1, 0, 0), (42, .invokevirtual 125, 3, 0, 178), (45, .aload_n 0, 1, 0, 0), (46, .getfield 19, 3, 10, 1), (49, .getfield 136, 3, 2, 0), (52, .ireturn, 1, 0, 0)]
/-- SerialGate.law()I -/
def mm_M131 : mm_M := (yX10_law, cX10_law, 2, (some .int), 10, false, [], [], mm_k131)
theorem mm_d131 : mm_k131.all (fun q => mm_deq (decode cX10_law q.1) q.2.1 q.2.2.1) = true := by decide +kernel
def mm_k132 : List mm_I := [(0, .aload_n 0, 1, 0, 0), (1, .getfield 85, 3, 10, 13), (4, .ireturn, 1, 0, 0)]
/-- SerialGate.fault()I -/
def mm_M132 : mm_M := (yX10_fault, cX10_fault, 1, (some .int), 10, false, [], [], mm_k132)
theorem mm_d132 : mm_k132.all (fun q => mm_deq (decode cX10_fault q.1) q.2.1 q.2.2.1) = true := by decide +kernel
def mm_k133 : List mm_I := [(0, .aload_n 0, 1, 0, 0), (1, .iload_n 1, 1, 0, 0), (2, .ifCond .eq 7, 3, 0, 0), (5, .iconst (-1), 1, 0, 0), (6, .goto 10, 3, 0, 0), (9, .aload_n 0, 1, 0, 0), (10, .getfield 10, 3, 10, 0), (13, .getfield 139, 3, 8, 2), (16, .putfield 85, 3, 10, 13), (19, .aload_n 0, 1, 0, 0), (20, .getfield 10, 3, 10, 0), (23, .invokevirtual 142, 3, 0, 99), (26, .return_, 1, 0, 0)]
/-- SerialGate.endText(Z)V -/
def mm_M133 : mm_M := (yX10_endText, cX10_endText, 2, none, 10, false, [], [], mm_k133)
theorem mm_d133 : mm_k133.all (fun q => mm_deq (decode cX10_endText q.1) q.2.1 q.2.2.1) = true := by decide +kernel
def mm_k134 : List mm_I := [(0, .iload_n 1, 1, 0, 0), (1, .invokestatic 145, 3, 0, 179), (4, .iload_n 2, 1, 0, 0), (5, .bipush 15, 2, 0, 0), (7, .invokestatic 148, 3, 0, 184), (10, .aload_n 0, 1, 0, 0), (11, .getfield 40, 3, 10, 4), (14, .getfield 152, 3, 9, 2), (17, .astore_n 3, 1, 0, 0), (18, .iload_n 2, 1, 0, 0), (19, .ifCond .ne 29, 3, 0, 0), (22, .aload_n 3, 1, 0, 0), (23, .iload_n 1, 1, 0, 0), (24, .invokevirtual 156, 3, 0, 64), (27, .ifCond .eq 7, 3, 0, 0), (30, .iconst 1, 1, 0, 0), (31, .goto 16, 3, 0, 0), (34, .aload_n 3, 1, 0, 0), (35, .iload_n 1, 1, 0, 0), (36, .invokevirtual 162, 3, 0, 65), (39, .ifCond .eq 7, 3, 0, 0), (42, .iconst 2, 1, 0, 0), (43, .goto 4, 3, 0, 0), (46, .iconst 0, 1, 0, 0), (47, .ireturn, 1, 0, 0), (48, .aload_n 3, 1, 0, 0), (49, .iload_n 1, 1, 0, 0), (50, .invokevirtual 162, 3, 0, 65), (53, .ifCond .ne 5, 3, 0, 0), (56, .iconst (-1), 1, 0, 0), (57, .ireturn, 1, 0, 0), (58, .iload_n 2, 1, 0, 0), (59, .tableswitch 177 1 14 #[69, 76, 83, 90, 97, 104, 111, 118, 125, 131, 140, 149, 156, 163], 69, 0, 0), (128, .aload_n 3, 1, 0, 0), (129, .getfield 165, 3, 6, 4), (132, .iload_n 1, 1, 0, 0), (133, .iaload, 1, 0, 0), (134, .ireturn, 1, 0, 0), (135, .aload_n 3, 1, 0, 0), (136, .getfield 169, 3, 6, 5), (139, .iload_n 1, 1, 0, 0), (140, .iaload, 1, 0, 0), (141, .ireturn, 1, 0, 0), (142, .aload_n 3, 1, 0, 0), (143, .getfield 172, 3, 6, 6), (146, .iload_n 1, 1, 0, 0), (147, .iaload, 1, 0, 0), (148, .ireturn, 1, 0, 0), (149, .aload_n 3, 1, 0, 0), (150, .getfield 175, 3, 6, 7), (153, .iload_n 1, 1, 0, 0), (154, .iaload, 1, 0, 0), (155, .ireturn, 1, 0, 0), (156, .aload_n 3, 1, 0, 0), (157, .getfield 178, 3, 6, 8), (160, .iload_n 1, 1, 0, 0), (161, .iaload, 1, 0, 0), (162, .ireturn, 1, 0, 0), (163, .aload_n 3, 1, 0, 0), (164, .getfield 181, 3, 6, 9), (167, .iload_n 1, 1, 0, 0), (168, .iaload, 1, 0, 0), (169, .ireturn, 1, 0, 0), (170, .aload_n 3, 1, 0, 0), (171, .getfield 184, 3, 6, 12), (174, .iload_n 1, 1, 0, 0), (175, .iaload, 1, 0, 0), (176, .ireturn, 1, 0, 0), (177, .aload_n 3, 1, 0, 0), (178, .getfield 187, 3, 6, 13), (181, .iload_n 1, 1, 0, 0), (182, .iaload, 1, 0, 0), (183, .ireturn, 1, 0, 0), (184, .aload_n 3, 1, 0, 0), (185, .iload_n 1, 1, 0, 0), (186, .invokevirtual 190, 3, 0, 76), (189, .ireturn, 1, 0, 0), (190, .aload_n 0, 1, 0, 0), (191, .getfield 40, 3, 10, 4), (194, .iload_n 1, 1, 0, 0), (195, .invokevirtual 194, 3, 0, 122), (198, .ireturn, 1, 0, 0), (199, .aload_n 0, 1, 0, 0), (200, .getfield 40, 3, 10, 4), (203, .iload_n 1, 1, 0, 0), (204, .invokevirtual 197, 3, 0, 123), (207, .ireturn, 1, 0, 0), (208, .aload_n 3, 1, 0, 0), (209, .getfield 200, 3, 6, 10), (212, .iload_n 1, 1, 0, 0), (213, .iaload, 1, 0, 0), (214, .ireturn, 1, 0, 0), (215, .aload_n 3, 1, 0, 0), (216, .getfield 203, 3, 6, 11), (219, .iload_n 1, 1, 0, 0), (220, .iaload, 1, 0, 0), (221, .ireturn, 1, 0, 0), (222, .aload_n 3, 1, 0, 0), (223, .iload_n 1, 1, 0, 0), (224, .invokevirtual 206, 3, 0, 68), (227, .ifCond .eq 7, 3, 0, 0), (230, .iconst 1, 1, 0, 0), (231, .goto 4, 3, 0, 0), (234, .iconst 0, 1, 0, 0), (235, .ireturn, 1, 0, 0), (236, .aload_n 3, 1, 0, 0), (237, .iload_n 1, 1, 0, 0), (238, .invokevirtual 209, 3, 0, 67), (241, .ifCond .eq 7, 3, 0, 0), (244, .iconst 1, 1, 0, 0), (245, .goto 4, 3, 0, 0), (248, .iconst 0, 1, 0, 0), (249, .ireturn, 1, 0, 0)]
/-- SerialGate.slot(II)I -/
def mm_M134 : mm_M := (yX10_slot, cX10_slot, 4, (some .int), 10, false, [], [], mm_k134)
theorem mm_d134 : mm_k134.all (fun q => mm_deq (decode cX10_slot q.1) q.2.1 q.2.2.1) = true := by decide +kernel
def mm_k135 : List mm_I := [(0, .iload_n 1, 1, 0, 0), (1, .invokestatic 145, 3, 0, 179), (4, .iload_n 2, 1, 0, 0), (5, .invokestatic 212, 3, 0, 180), (8, .aload_n 0, 1, 0, 0), (9, .getfield 40, 3, 10, 4), (12, .getfield 152, 3, 9, 2), (15, .iload_n 1, 1, 0, 0), (16, .invokevirtual 162, 3, 0, 65), (19, .ifCond .eq 23, 3, 0, 0), (22, .aload_n 0, 1, 0, 0), (23, .getfield 40, 3, 10, 4), (26, .getfield 152, 3, 9, 2), (29, .getfield 215, 3, 6, 14), (32, .iload_n 1, 1, 0, 0), (33, .bipush 10, 2, 0, 0), (35, .imul, 1, 0, 0), (36, .iload_n 2, 1, 0, 0), (37, .iadd, 1, 0, 0), (38, .iaload, 1, 0, 0), (39, .goto 4, 3, 0, 0), (42, .iconst (-1), 1, 0, 0), (43, .ireturn, 1, 0, 0)]
/-- SerialGate.seen(II)I -/
def mm_M135 : mm_M := (yX10_seen, cX10_seen, 3, (some .int), 10, false, [], [], mm_k135)
theorem mm_d135 : mm_k135.all (fun q => mm_deq (decode cX10_seen q.1) q.2.1 q.2.2.1) = true := by decide +kernel
def mm_k136 : List mm_I := [(0, .iload_n 1, 1, 0, 0), (1, .invokestatic 212, 3, 0, 180), (4, .iload_n 2, 1, 0, 0), (5, .iconst 4, 1, 0, 0), (6, .invokestatic 148, 3, 0, 184), (9, .iload_n 2, 1, 0, 0), (10, .tableswitch 70 0 3 #[30, 40, 50, 60], 30, 0, 0), (40, .aload_n 0, 1, 0, 0), (41, .getfield 40, 3, 10, 4), (44, .getfield 218, 3, 9, 5), (47, .iload_n 1, 1, 0, 0), (48, .iaload, 1, 0, 0), (49, .ireturn, 1, 0, 0), (50, .aload_n 0, 1, 0, 0), (51, .getfield 40, 3, 10, 4), (54, .getfield 221, 3, 9, 6), (57, .iload_n 1, 1, 0, 0), (58, .iaload, 1, 0, 0), (59, .ireturn, 1, 0, 0), (60, .aload_n 0, 1, 0, 0), (61, .getfield 40, 3, 10, 4), (64, .getfield 224, 3, 9, 7), (67, .iload_n 1, 1, 0, 0), (68, .iaload, 1, 0, 0), (69, .ireturn, 1, 0, 0), (70, .aload_n 0, 1, 0, 0), (71, .getfield 40, 3, 10, 4), (74, .getfield 227, 3, 9, 8), (77, .iload_n 1, 1, 0, 0), (78, .iaload, 1, 0, 0), (79, .ireturn, 1, 0, 0), (80, .aload_n 0, 1, 0, 0), (81, .getfield 40, 3, 10, 4), (84, .getfield 152, 3, 9, 2), (87, .iload_n 1, 1, 0, 0), (88, .invokevirtual 230, 3, 0, 72), (91, .ireturn, 1, 0, 0)]
/-- SerialGate.key(II)I -/
def mm_M136 : mm_M := (yX10_key, cX10_key, 3, (some .int), 10, false, [], [], mm_k136)
theorem mm_d136 : mm_k136.all (fun q => mm_deq (decode cX10_key q.1) q.2.1 q.2.2.1) = true := by decide +kernel
def mm_k137 : List mm_I := [(0, .aload_n 0, 1, 0, 0), (1, .iload_n 1, 1, 0, 0), (2, .invokevirtual 233, 3, 0, 181), (5, .iload_n 2, 1, 0, 0), (6, .bipush 8, 2, 0, 0), (8, .invokestatic 148, 3, 0, 184), (11, .aload_n 0, 1, 0, 0), (12, .getfield 40, 3, 10, 4), (15, .getfield 59, 3, 9, 1), (18, .astore_n 3, 1, 0, 0), (19, .iload_n 2, 1, 0, 0), (20, .tableswitch 120 0 7 #[48, 55, 62, 76, 83, 90, 102, 111], 48, 0, 0), (68, .aload_n 3, 1, 0, 0), (69, .getfield 236, 3, 0, 2), (72, .iload_n 1, 1, 0, 0), (73, .iaload, 1, 0, 0), (74, .ireturn, 1, 0, 0), (75, .aload_n 3, 1, 0, 0), (76, .getfield 241, 3, 0, 3), (79, .iload_n 1, 1, 0, 0), (80, .iaload, 1, 0, 0), (81, .ireturn, 1, 0, 0), (82, .aload_n 3, 1, 0, 0), (83, .iload_n 1, 1, 0, 0), (84, .invokevirtual 244, 3, 0, 3), (87, .ifCond .eq 7, 3, 0, 0), (90, .iconst 1, 1, 0, 0), (91, .goto 4, 3, 0, 0), (94, .iconst 0, 1, 0, 0), (95, .ireturn, 1, 0, 0), (96, .aload_n 3, 1, 0, 0), (97, .getfield 247, 3, 0, 4), (100, .iload_n 1, 1, 0, 0), (101, .iaload, 1, 0, 0), (102, .ireturn, 1, 0, 0), (103, .aload_n 3, 1, 0, 0), (104, .getfield 250, 3, 0, 5), (107, .iload_n 1, 1, 0, 0), (108, .iaload, 1, 0, 0), (109, .ireturn, 1, 0, 0), (110, .aload_n 0, 1, 0, 0), (111, .getfield 40, 3, 10, 4), (114, .getfield 152, 3, 9, 2), (117, .iload_n 1, 1, 0, 0), (118, .invokevirtual 253, 3, 0, 71), (121, .ireturn, 1, 0, 0), (122, .aload_n 0, 1, 0, 0), (123, .getfield 40, 3, 10, 4), (126, .iload_n 1, 1, 0, 0), (127, .invokevirtual 256, 3, 0, 114), (130, .ireturn, 1, 0, 0), (131, .aload_n 0, 1, 0, 0), (132, .getfield 66, 3, 10, 8), (135, .iload_n 1, 1, 0, 0), (136, .invokevirtual 259, 3, 0, 52), (139, .ireturn, 1, 0, 0), (140, .aload_n 3, 1, 0, 0), (141, .iload_n 1, 1, 0, 0), (142, .invokevirtual 262, 3, 0, 9), (145, .ireturn, 1, 0, 0)]
/-- SerialGate.client(II)I -/
def mm_M137 : mm_M := (yX10_client, cX10_client, 4, (some .int), 10, false, [], [], mm_k137)
theorem mm_d137 : mm_k137.all (fun q => mm_deq (decode cX10_client q.1) q.2.1 q.2.2.1) = true := by decide +kernel
def mm_k138 : List mm_I := [(0, .iload_n 1, 1, 0, 0), (1, .iconst 1, 1, 0, 0), (2, .if_icmp .lt 9, 3, 0, 0), (5, .iload_n 1, 1, 0, 0), (6, .bipush 60, 2, 0, 0), (8, .if_icmp .le 14, 3, 0, 0), (11, .new 107, 3, 1, 3), (14, .dup, 1, 0, 0), (15, .ldc_w 265, 3, 0, 27), (18, .invokespecial 111, 3, 99, 0), (21, .athrow, 1, 0, 0), (22, .aload_n 0, 1, 0, 0), (23, .invokevirtual 267, 3, 0, 177), (26, .aload_n 0, 1, 0, 0), (27, .getfield 40, 3, 10, 4), (30, .iload_n 1, 1, 0, 0), (31, .invokevirtual 270, 3, 0, 112), (34, .ireturn, 1, 0, 0)]
/-- SerialGate.ticks(I)I -/
def mm_M138 : mm_M := (yX10_ticks, cX10_ticks, 2, (some .int), 10, false, [], [], mm_k138)
theorem mm_d138 : mm_k138.all (fun q => mm_deq (decode cX10_ticks q.1) q.2.1 q.2.2.1) = true := by decide +kernel
def mm_k139 : List mm_I := [(0, .aload_n 0, 1, 0, 0), (1, .iload_n 1, 1, 0, 0), (2, .invokevirtual 233, 3, 0, 181), (5, .aload_n 0, 1, 0, 0), (6, .getfield 40, 3, 10, 4), (9, .getfield 152, 3, 9, 2), (12, .iload_n 1, 1, 0, 0), (13, .invokevirtual 253, 3, 0, 71), (16, .iconst (-1), 1, 0, 0), (17, .if_icmp .ne 17, 3, 0, 0), (20, .aload_n 0, 1, 0, 0), (21, .getfield 40, 3, 10, 4), (24, .getfield 152, 3, 9, 2), (27, .invokevirtual 273, 3, 0, 70), (30, .iconst (-1), 1, 0, 0), (31, .if_icmp .ne 14, 3, 0, 0), (34, .new 277, 3, 1, 4), (37, .dup, 1, 0, 0), (38, .ldc_w 279, 3, 0, 28), (41, .invokespecial 281, 3, 99, 0), (44, .athrow, 1, 0, 0), (45, .aload_n 0, 1, 0, 0), (46, .invokevirtual 267, 3, 0, 177), (49, .aload_n 0, 1, 0, 0), (50, .getfield 40, 3, 10, 4), (53, .iload_n 1, 1, 0, 0), (54, .invokevirtual 282, 3, 0, 115), (57, .ireturn, 1, 0, 0)]
/-- SerialGate.begin(I)I -/
def mm_M139 : mm_M := (yX10_begin, cX10_begin, 2, (some .int), 10, false, [], [], mm_k139)
theorem mm_d139 : mm_k139.all (fun q => mm_deq (decode cX10_begin q.1) q.2.1 q.2.2.1) = true := by decide +kernel
def mm_k140 : List mm_I := [(0, .iload_n 1, 1, 0, 0), (1, .invokestatic 145, 3, 0, 179), (4, .iload_n 2, 1, 0, 0), (5, .invokestatic 212, 3, 0, 180), (8, .aload_n 0, 1, 0, 0), (9, .iload_n 1, 1, 0, 0), (10, .invokevirtual 285, 3, 0, 183), (13, .aload_n 0, 1, 0, 0), (14, .invokevirtual 267, 3, 0, 177), (17, .aload_n 0, 1, 0, 0), (18, .getfield 40, 3, 10, 4), (21, .iload_n 1, 1, 0, 0), (22, .iload_n 2, 1, 0, 0), (23, .invokevirtual 288, 3, 0, 116), (26, .aload_n 0, 1, 0, 0), (27, .getfield 40, 3, 10, 4), (30, .getfield 152, 3, 9, 2), (33, .astore_n 3, 1, 0, 0), (34, .aload_n 3, 1, 0, 0), (35, .iload_n 1, 1, 0, 0), (36, .invokevirtual 156, 3, 0, 64), (39, .ifCond .ne 5, 3, 0, 0), (42, .iconst (-1), 1, 0, 0), (43, .ireturn, 1, 0, 0), (44, .aload_n 3, 1, 0, 0), (45, .getfield 215, 3, 6, 14), (48, .iload_n 1, 1, 0, 0), (49, .bipush 10, 2, 0, 0), (51, .imul, 1, 0, 0), (52, .iload_n 2, 1, 0, 0), (53, .iadd, 1, 0, 0), (54, .iaload, 1, 0, 0), (55, .aload_n 3, 1, 0, 0), (56, .getfield 181, 3, 6, 9), (59, .iload_n 1, 1, 0, 0), (60, .iaload, 1, 0, 0), (61, .iload_n 2, 1, 0, 0), (62, .ishr, 1, 0, 0), (63, .iconst 1, 1, 0, 0), (64, .iand, 1, 0, 0), (65, .iadd, 1, 0, 0), (66, .ireturn, 1, 0, 0)]
/-- SerialGate.read(II)I -/
def mm_M140 : mm_M := (yX10_read, cX10_read, 4, (some .int), 10, false, [], [], mm_k140)
theorem mm_d140 : mm_k140.all (fun q => mm_deq (decode cX10_read q.1) q.2.1 q.2.2.1) = true := by decide +kernel
def mm_k141 : List mm_I := [(0, .iload_n 1, 1, 0, 0), (1, .invokestatic 145, 3, 0, 179), (4, .iload_n 2, 1, 0, 0), (5, .invokestatic 212, 3, 0, 180), (8, .aload_n 0, 1, 0, 0), (9, .iload_n 1, 1, 0, 0), (10, .invokevirtual 285, 3, 0, 183), (13, .aload_n 0, 1, 0, 0), (14, .getfield 40, 3, 10, 4), (17, .getfield 152, 3, 9, 2), (20, .iload_n 1, 1, 0, 0), (21, .invokevirtual 291, 3, 0, 66), (24, .ifCond .ne 18, 3, 0, 0), (27, .aload_n 0, 1, 0, 0), (28, .getfield 40, 3, 10, 4), (31, .getfield 152, 3, 9, 2), (34, .iload_n 1, 1, 0, 0), (35, .iload_n 2, 1, 0, 0), (36, .invokevirtual 292, 3, 0, 73), (39, .ifCond .eq 14, 3, 0, 0), (42, .new 277, 3, 1, 5), (45, .dup, 1, 0, 0), (46, .ldc_w 296, 3, 0, 30), (49, .invokespecial 281, 3, 99, 0), (52, .athrow, 1, 0, 0), (53, .aload_n 0, 1, 0, 0), (54, .invokevirtual 267, 3, 0, 177), (57, .aload_n 0, 1, 0, 0), (58, .getfield 40, 3, 10, 4), (61, .iload_n 1, 1, 0, 0), (62, .iload_n 2, 1, 0, 0), (63, .invokevirtual 298, 3, 0, 117), (66, .aload_n 0, 1, 0, 0), (67, .getfield 40, 3, 10, 4), (70, .getfield 152, 3, 9, 2), (73, .iload_n 1, 1, 0, 0), (74, .invokevirtual 156, 3, 0, 64), (77, .ireturn, 1, 0, 0)]
/-- SerialGate.write(II)Z -/
def mm_M141 : mm_M := (yX10_write, cX10_write, 3, (some .boolean), 10, false, [], [], mm_k141)
theorem mm_d141 : mm_k141.all (fun q => mm_deq (decode cX10_write q.1) q.2.1 q.2.2.1) = true := by decide +kernel
def mm_k142 : List mm_I := [(0, .iload_n 1, 1, 0, 0), (1, .invokestatic 145, 3, 0, 179), (4, .aload_n 0, 1, 0, 0), (5, .iload_n 1, 1, 0, 0), (6, .invokevirtual 285, 3, 0, 183), (9, .aload_n 0, 1, 0, 0), (10, .invokevirtual 267, 3, 0, 177), (13, .aload_n 0, 1, 0, 0), (14, .getfield 40, 3, 10, 4), (17, .iload_n 1, 1, 0, 0), (18, .invokevirtual 301, 3, 0, 118), (21, .ireturn, 1, 0, 0)]
/-- SerialGate.commit(I)I -/
def mm_M142 : mm_M := (yX10_commit, cX10_commit, 2, (some .int), 10, false, [], [], mm_k142)
theorem mm_d142 : mm_k142.all (fun q => mm_deq (decode cX10_commit q.1) q.2.1 q.2.2.1) = true := by decide +kernel
def mm_k143 : List mm_I := [(0, .iload_n 1, 1, 0, 0), (1, .invokestatic 145, 3, 0, 179), (4, .aload_n 0, 1, 0, 0), (5, .iload_n 1, 1, 0, 0), (6, .invokevirtual 285, 3, 0, 183), (9, .aload_n 0, 1, 0, 0), (10, .invokevirtual 267, 3, 0, 177), (13, .aload_n 0, 1, 0, 0), (14, .getfield 40, 3, 10, 4), (17, .getfield 152, 3, 9, 2), (20, .getfield 165, 3, 6, 4), (23, .iload_n 1, 1, 0, 0), (24, .iaload, 1, 0, 0), (25, .istore_n 2, 1, 0, 0), (26, .aload_n 0, 1, 0, 0), (27, .getfield 40, 3, 10, 4), (30, .iload_n 1, 1, 0, 0), (31, .iconst 4, 1, 0, 0), (32, .invokevirtual 306, 3, 0, 119), (35, .aload_n 0, 1, 0, 0), (36, .getfield 40, 3, 10, 4), (39, .invokevirtual 122, 3, 0, 125), (42, .iload_n 2, 1, 0, 0), (43, .ireturn, 1, 0, 0)]
/-- SerialGate.abort(I)I -/
def mm_M143 : mm_M := (yX10_abort, cX10_abort, 3, (some .int), 10, false, [], [], mm_k143)
theorem mm_d143 : mm_k143.all (fun q => mm_deq (decode cX10_abort q.1) q.2.1 q.2.2.1) = true := by decide +kernel
def mm_k144 : List mm_I := [(0, .iload_n 1, 1, 0, 0), (1, .ifCond .lt 9, 3, 0, 0), (4, .iload_n 1, 1, 0, 0), (5, .bipush 6, 2, 0, 0), (7, .if_icmp .le 14, 3, 0, 0), (10, .new 107, 3, 1, 6), (13, .dup, 1, 0, 0), (14, .ldc_w 309, 3, 0, 31), (17, .invokespecial 111, 3, 99, 0), (20, .athrow, 1, 0, 0), (21, .aload_n 0, 1, 0, 0), (22, .invokevirtual 267, 3, 0, 177), (25, .aload_n 0, 1, 0, 0), (26, .getfield 40, 3, 10, 4), (29, .getfield 311, 3, 9, 10), (32, .istore_n 2, 1, 0, 0), (33, .aload_n 0, 1, 0, 0), (34, .getfield 40, 3, 10, 4), (37, .iload_n 1, 1, 0, 0), (38, .putfield 311, 3, 9, 10), (41, .aload_n 0, 1, 0, 0), (42, .getfield 40, 3, 10, 4), (45, .invokevirtual 122, 3, 0, 125), (48, .iload_n 2, 1, 0, 0), (49, .ireturn, 1, 0, 0)]
/-- SerialGate.keep(I)I -/
def mm_M144 : mm_M := (yX10_keep, cX10_keep, 3, (some .int), 10, false, [], [], mm_k144)
theorem mm_d144 : mm_k144.all (fun q => mm_deq (decode cX10_keep q.1) q.2.1 q.2.2.1) = true := by decide +kernel
def mm_k145 : List mm_I := [(0, .aload_n 0, 1, 0, 0), (1, .getfield 40, 3, 10, 4), (4, .getfield 314, 3, 9, 12), (7, .istore_n 2, 1, 0, 0), (8, .aload_n 0, 1, 0, 0), (9, .getfield 40, 3, 10, 4), (12, .iload_n 1, 1, 0, 0), (13, .putfield 314, 3, 9, 12), (16, .iload_n 2, 1, 0, 0), (17, .ireturn, 1, 0, 0)]
/-- SerialGate.seed(I)I -/
def mm_M145 : mm_M := (yX10_seed, cX10_seed, 3, (some .int), 10, false, [], [], mm_k145)
theorem mm_d145 : mm_k145.all (fun q => mm_deq (decode cX10_seed q.1) q.2.1 q.2.2.1) = true := by decide +kernel
def mm_k146 : List mm_I := [(0, .iload_n 1, 1, 0, 0), (1, .invokestatic 145, 3, 0, 179), (4, .iload_n 2, 1, 0, 0), (5, .iconst 2, 1, 0, 0), (6, .if_icmp .eq 7, 3, 0, 0), (9, .iload_n 3, 1, 0, 0), (10, .invokestatic 212, 3, 0, 180), (13, .iload_n 2, 1, 0, 0), (14, .ifCond .lt 8, 3, 0, 0), (17, .iload_n 2, 1, 0, 0), (18, .iconst 2, 1, 0, 0), (19, .if_icmp .le 14, 3, 0, 0), (22, .new 107, 3, 1, 7), (25, .dup, 1, 0, 0), (26, .ldc_w 317, 3, 0, 32), (29, .invokespecial 111, 3, 99, 0), (32, .athrow, 1, 0, 0), (33, .aload_n 0, 1, 0, 0), (34, .iload_n 1, 1, 0, 0), (35, .invokevirtual 285, 3, 0, 183), (38, .aload_n 0, 1, 0, 0), (39, .getfield 40, 3, 10, 4), (42, .getfield 152, 3, 9, 2), (45, .astore 4, 2, 0, 0), (47, .iload_n 2, 1, 0, 0), (48, .iconst 1, 1, 0, 0), (49, .if_icmp .ne 24, 3, 0, 0), (52, .aload 4, 2, 0, 0), (54, .iload_n 1, 1, 0, 0), (55, .invokevirtual 291, 3, 0, 66), (58, .ifCond .ne 13, 3, 0, 0), (61, .aload 4, 2, 0, 0), (63, .iload_n 1, 1, 0, 0), (64, .iload_n 3, 1, 0, 0), (65, .invokevirtual 292, 3, 0, 73), (68, .ifCond .eq 5, 3, 0, 0), (71, .iconst 0, 1, 0, 0), (72, .ireturn, 1, 0, 0), (73, .aload_n 0, 1, 0, 0), (74, .getfield 44, 3, 10, 5), (77, .aload_n 0, 1, 0, 0), (78, .getfield 40, 3, 10, 4), (81, .invokevirtual 95, 3, 0, 111), (84, .iconst 0, 1, 0, 0), (85, .istore 5, 2, 0, 0), (87, .iload_n 2, 1, 0, 0), (88, .ifCond .ne 15, 3, 0, 0), (91, .aload_n 0, 1, 0, 0), (92, .getfield 44, 3, 10, 5), (95, .iload_n 1, 1, 0, 0), (96, .iload_n 3, 1, 0, 0), (97, .invokevirtual 288, 3, 0, 116), (100, .goto 34, 3, 0, 0), (103, .iload_n 2, 1, 0, 0), (104, .iconst 1, 1, 0, 0), (105, .if_icmp .ne 15, 3, 0, 0), (108, .aload_n 0, 1, 0, 0), (109, .getfield 44, 3, 10, 5), (112, .iload_n 1, 1, 0, 0), (113, .iload_n 3, 1, 0, 0), (114, .invokevirtual 298, 3, 0, 117), (117, .goto 17, 3, 0, 0), (120, .aload_n 0, 1, 0, 0), (121, .getfield 44, 3, 10, 5), (124, .iload_n 1, 1, 0, 0), (125, .invokevirtual 301, 3, 0, 118), (128, .pop, 1, 0, 0), (129, .iconst 1, 1, 0, 0), (130, .iload_n 1, 1, 0, 0), (131, .ishl, 1, 0, 0), (132, .istore 5, 2, 0, 0), (134, .aload 4, 2, 0, 0), (136, .getfield 319, 3, 6, 0), (139, .aload_n 0, 1, 0, 0), (140, .getfield 44, 3, 10, 5), (143, .getfield 152, 3, 9, 2), (146, .getfield 319, 3, 6, 0), (149, .iconst (-1), 1, 0, 0), (150, .ixor, 1, 0, 0), (151, .iand, 1, 0, 0), (152, .iload 5, 2, 0, 0), (154, .iconst (-1), 1, 0, 0), (155, .ixor, 1, 0, 0), (156, .iand, 1, 0, 0), (157, .ireturn, 1, 0, 0)]
/-- SerialGate.dooms(III)I -/
def mm_M146 : mm_M := (yX10_dooms, cX10_dooms, 6, (some .int), 10, false, [], [], mm_k146)
theorem mm_d146 : mm_k146.all (fun q => mm_deq (decode cX10_dooms q.1) q.2.1 q.2.2.1) = true := by decide +kernel
def mm_k147 : List mm_I := [(0, .iconst 0, 1, 0, 0), (1, .istore_n 1, 1, 0, 0), (2, .iconst 0, 1, 0, 0), (3, .istore_n 2, 1, 0, 0), (4, .iload_n 2, 1, 0, 0), (5, .bipush 8, 2, 0, 0), (7, .if_icmp .ge 43, 3, 0, 0), (10, .aload_n 0, 1, 0, 0), (11, .getfield 40, 3, 10, 4), (14, .getfield 152, 3, 9, 2), (17, .iload_n 2, 1, 0, 0), (18, .invokevirtual 162, 3, 0, 65), (21, .ifCond .eq 23, 3, 0, 0), (24, .aload_n 0, 1, 0, 0), (25, .getfield 40, 3, 10, 4), (28, .getfield 152, 3, 9, 2), (31, .iload_n 2, 1, 0, 0), (32, .invokevirtual 322, 3, 0, 69), (35, .ifCond .eq 9, 3, 0, 0), (38, .iload_n 1, 1, 0, 0), (39, .iconst 1, 1, 0, 0), (40, .iload_n 2, 1, 0, 0), (41, .ishl, 1, 0, 0), (42, .ior, 1, 0, 0), (43, .istore_n 1, 1, 0, 0), (44, .iinc 2 1, 3, 0, 0), (47, .goto (-43), 3, 0, 0), (50, .iload_n 1, 1, 0, 0), (51, .ireturn, 1, 0, 0)]
/-- SerialGate.pivots()I -/
def mm_M147 : mm_M := (yX10_pivots, cX10_pivots, 3, (some .int), 10, false, [], [], mm_k147)
theorem mm_d147 : mm_k147.all (fun q => mm_deq (decode cX10_pivots q.1) q.2.1 q.2.2.1) = true := by decide +kernel
def mm_k148 : List mm_I := [(0, .aload_n 0, 1, 0, 0), (1, .getfield 40, 3, 10, 4), (4, .getfield 152, 3, 9, 2), (7, .invokevirtual 325, 3, 0, 89), (10, .ireturn, 1, 0, 0)]
/-- SerialGate.cut()I -/
def mm_M148 : mm_M := (yX10_cut, cX10_cut, 1, (some .int), 10, false, [], [], mm_k148)
theorem mm_d148 : mm_k148.all (fun q => mm_deq (decode cX10_cut q.1) q.2.1 q.2.2.1) = true := by decide +kernel
def mm_k149 : List mm_I := [(0, .iload_n 2, 1, 0, 0), (1, .iconst 3, 1, 0, 0), (2, .invokestatic 148, 3, 0, 184), (5, .aload_n 0, 1, 0, 0), (6, .getfield 40, 3, 10, 4), (9, .getfield 328, 3, 9, 3), (12, .astore_n 3, 1, 0, 0), (13, .iload_n 1, 1, 0, 0), (14, .ifCond .lt 11, 3, 0, 0), (17, .iload_n 1, 1, 0, 0), (18, .aload_n 3, 1, 0, 0), (19, .getfield 332, 3, 1, 0), (22, .if_icmp .lt 5, 3, 0, 0), (25, .iconst (-1), 1, 0, 0), (26, .ireturn, 1, 0, 0), (27, .aload_n 3, 1, 0, 0), (28, .iload_n 1, 1, 0, 0), (29, .invokevirtual 337, 3, 0, 14), (32, .istore 4, 2, 0, 0), (34, .iload_n 2, 1, 0, 0), (35, .tableswitch 49 0 2 #[25, 33, 41], 25, 0, 0), (60, .aload_n 3, 1, 0, 0), (61, .getfield 340, 3, 1, 2), (64, .iload 4, 2, 0, 0), (66, .iaload, 1, 0, 0), (67, .ireturn, 1, 0, 0), (68, .aload_n 3, 1, 0, 0), (69, .getfield 341, 3, 1, 3), (72, .iload 4, 2, 0, 0), (74, .iaload, 1, 0, 0), (75, .ireturn, 1, 0, 0), (76, .aload_n 3, 1, 0, 0), (77, .getfield 342, 3, 1, 4), (80, .iload 4, 2, 0, 0), (82, .iaload, 1, 0, 0), (83, .ireturn, 1, 0, 0), (84, .aload_n 3, 1, 0, 0), (85, .getfield 345, 3, 1, 5), (88, .iload 4, 2, 0, 0), (90, .iaload, 1, 0, 0), (91, .ireturn, 1, 0, 0)]
/-- SerialGate.history(II)I -/
def mm_M149 : mm_M := (yX10_history, cX10_history, 5, (some .int), 10, false, [], [], mm_k149)
theorem mm_d149 : mm_k149.all (fun q => mm_deq (decode cX10_history q.1) q.2.1 q.2.2.1) = true := by decide +kernel
def mm_k150 : List mm_I := [(0, .iload_n 2, 1, 0, 0), (1, .invokestatic 212, 3, 0, 180), (4, .aload_n 0, 1, 0, 0), (5, .getfield 40, 3, 10, 4), (8, .getfield 328, 3, 9, 3), (11, .astore 4, 2, 0, 0), (13, .iload_n 1, 1, 0, 0), (14, .ifCond .lt 12, 3, 0, 0), (17, .iload_n 1, 1, 0, 0), (18, .aload 4, 2, 0, 0), (20, .getfield 332, 3, 1, 0), (23, .if_icmp .lt 5, 3, 0, 0), (26, .iconst (-1), 1, 0, 0), (27, .ireturn, 1, 0, 0), (28, .aload 4, 2, 0, 0), (30, .iload_n 1, 1, 0, 0), (31, .invokevirtual 337, 3, 0, 14), (34, .istore 5, 2, 0, 0), (36, .iload_n 3, 1, 0, 0), (37, .ifCond .eq 14, 3, 0, 0), (40, .aload 4, 2, 0, 0), (42, .getfield 345, 3, 1, 5), (45, .iload 5, 2, 0, 0), (47, .iaload, 1, 0, 0), (48, .goto 11, 3, 0, 0), (51, .aload 4, 2, 0, 0), (53, .getfield 342, 3, 1, 4), (56, .iload 5, 2, 0, 0), (58, .iaload, 1, 0, 0), (59, .istore 6, 2, 0, 0), (61, .iload 6, 2, 0, 0), (63, .iload_n 2, 1, 0, 0), (64, .ishr, 1, 0, 0), (65, .iconst 1, 1, 0, 0), (66, .iand, 1, 0, 0), (67, .ifCond .ne 5, 3, 0, 0), (70, .iconst (-1), 1, 0, 0), (71, .ireturn, 1, 0, 0), (72, .iload_n 3, 1, 0, 0), (73, .ifCond .eq 19, 3, 0, 0), (76, .aload 4, 2, 0, 0), (78, .getfield 348, 3, 1, 7), (81, .iload 5, 2, 0, 0), (83, .bipush 10, 2, 0, 0), (85, .imul, 1, 0, 0), (86, .iload_n 2, 1, 0, 0), (87, .iadd, 1, 0, 0), (88, .iaload, 1, 0, 0), (89, .goto 16, 3, 0, 0), (92, .aload 4, 2, 0, 0), (94, .getfield 351, 3, 1, 6), (97, .iload 5, 2, 0, 0), (99, .bipush 10, 2, 0, 0), (101, .imul, 1, 0, 0), (102, .iload_n 2, 1, 0, 0), (103, .iadd, 1, 0, 0), (104, .iaload, 1, 0, 0), (105, .ireturn, 1, 0, 0)]
/-- SerialGate.version(IIZ)I -/
def mm_M150 : mm_M := (yX10_version, cX10_version, 7, (some .int), 10, false, [], [], mm_k150)
theorem mm_d150 : mm_k150.all (fun q => mm_deq (decode cX10_version q.1) q.2.1 q.2.2.1) = true := by decide +kernel
def mm_k151 : List mm_I := [(0, .aload_n 0, 1, 0, 0), (1, .getfield 40, 3, 10, 4), (4, .getfield 328, 3, 9, 3), (7, .iload_n 1, 1, 0, 0), (8, .invokevirtual 354, 3, 0, 16), (11, .ireturn, 1, 0, 0)]
/-- SerialGate.serial(I)I -/
def mm_M151 : mm_M := (yX10_serial, cX10_serial, 2, (some .int), 10, false, [], [], mm_k151)
theorem mm_d151 : mm_k151.all (fun q => mm_deq (decode cX10_serial q.1) q.2.1 q.2.2.1) = true := by decide +kernel
def mm_k152 : List mm_I := [(0, .aload_n 0, 1, 0, 0), (1, .iload_n 1, 1, 0, 0), (2, .invokevirtual 233, 3, 0, 181), (5, .iload_n 2, 1, 0, 0), (6, .ifCond .eq 17, 3, 0, 0), (9, .aload_n 0, 1, 0, 0), (10, .getfield 40, 3, 10, 4), (13, .getfield 357, 3, 9, 4), (16, .iload_n 1, 1, 0, 0), (17, .invokevirtual 361, 3, 0, 47), (20, .goto 14, 3, 0, 0), (23, .aload_n 0, 1, 0, 0), (24, .getfield 40, 3, 10, 4), (27, .getfield 357, 3, 9, 4), (30, .iload_n 1, 1, 0, 0), (31, .invokevirtual 364, 3, 0, 46), (34, .ireturn, 1, 0, 0)]
/-- SerialGate.led(IZ)I -/
def mm_M152 : mm_M := (yX10_led, cX10_led, 3, (some .int), 10, false, [], [], mm_k152)
theorem mm_d152 : mm_k152.all (fun q => mm_deq (decode cX10_led q.1) q.2.1 q.2.2.1) = true := by decide +kernel
def mm_k153 : List mm_I := [(0, .iload_n 2, 1, 0, 0), (1, .iconst 3, 1, 0, 0), (2, .invokestatic 148, 3, 0, 184), (5, .aload_n 0, 1, 0, 0), (6, .getfield 40, 3, 10, 4), (9, .getfield 357, 3, 9, 4), (12, .iload_n 1, 1, 0, 0), (13, .iload_n 2, 1, 0, 0), (14, .invokevirtual 367, 3, 0, 44), (17, .ireturn, 1, 0, 0)]
/-- SerialGate.log(II)I -/
def mm_M153 : mm_M := (yX10_log, cX10_log, 3, (some .int), 10, false, [], [], mm_k153)
theorem mm_d153 : mm_k153.all (fun q => mm_deq (decode cX10_log q.1) q.2.1 q.2.2.1) = true := by decide +kernel
def mm_k154 : List mm_I := [(0, .aload_n 0, 1, 0, 0), (1, .iload_n 1, 1, 0, 0), (2, .iload_n 2, 1, 0, 0), (3, .invokevirtual 371, 3, 0, 182), (6, .aload_n 0, 1, 0, 0), (7, .getfield 40, 3, 10, 4), (10, .getfield 59, 3, 9, 1), (13, .iload_n 1, 1, 0, 0), (14, .iload_n 2, 1, 0, 0), (15, .invokevirtual 374, 3, 0, 5), (18, .ireturn, 1, 0, 0)]
/-- SerialGate.clash(II)Z -/
def mm_M154 : mm_M := (yX10_clash, cX10_clash, 3, (some .boolean), 10, false, [], [], mm_k154)
theorem mm_d154 : mm_k154.all (fun q => mm_deq (decode cX10_clash q.1) q.2.1 q.2.2.1) = true := by decide +kernel
def mm_k155 : List mm_I := [(0, .aload_n 0, 1, 0, 0), (1, .getfield 66, 3, 10, 8), (4, .invokevirtual 377, 3, 0, 49), (7, .ireturn, 1, 0, 0)]
/-- SerialGate.apart()I -/
def mm_M155 : mm_M := (yX10_apart, cX10_apart, 1, (some .int), 10, false, [], [], mm_k155)
theorem mm_d155 : mm_k155.all (fun q => mm_deq (decode cX10_apart q.1) q.2.1 q.2.2.1) = true := by decide +kernel
def mm_k156 : List mm_I := [(0, .aload_n 0, 1, 0, 0), (1, .getfield 66, 3, 10, 8), (4, .invokevirtual 380, 3, 0, 51), (7, .ireturn, 1, 0, 0)]
/-- SerialGate.rounds()I -/
def mm_M156 : mm_M := (yX10_rounds, cX10_rounds, 1, (some .int), 10, false, [], [], mm_k156)
theorem mm_d156 : mm_k156.all (fun q => mm_deq (decode cX10_rounds q.1) q.2.1 q.2.2.1) = true := by decide +kernel
def mm_k157 : List mm_I := [(0, .aload_n 0, 1, 0, 0), (1, .getfield 66, 3, 10, 8), (4, .invokevirtual 383, 3, 0, 55), (7, .ireturn, 1, 0, 0)]
/-- SerialGate.cover()I -/
def mm_M157 : mm_M := (yX10_cover, cX10_cover, 1, (some .int), 10, false, [], [], mm_k157)
theorem mm_d157 : mm_k157.all (fun q => mm_deq (decode cX10_cover q.1) q.2.1 q.2.2.1) = true := by decide +kernel
def mm_k158 : List mm_I := [(0, .iload_n 1, 1, 0, 0), (1, .iconst (-1), 1, 0, 0), (2, .if_icmp .eq 8, 3, 0, 0), (5, .aload_n 0, 1, 0, 0), (6, .iload_n 1, 1, 0, 0), (7, .invokevirtual 233, 3, 0, 181), (10, .aload_n 0, 1, 0, 0), (11, .getfield 66, 3, 10, 8), (14, .iload_n 1, 1, 0, 0), (15, .invokevirtual 386, 3, 0, 57), (18, .ireturn, 1, 0, 0)]
/-- SerialGate.pairs(I)I -/
def mm_M158 : mm_M := (yX10_pairs, cX10_pairs, 2, (some .int), 10, false, [], [], mm_k158)
theorem mm_d158 : mm_k158.all (fun q => mm_deq (decode cX10_pairs q.1) q.2.1 q.2.2.1) = true := by decide +kernel
def mm_k159 : List mm_I := [(0, .aload_n 0, 1, 0, 0), (1, .iload_n 1, 1, 0, 0), (2, .iload_n 2, 1, 0, 0), (3, .invokevirtual 371, 3, 0, 182), (6, .aload_n 0, 1, 0, 0), (7, .getfield 66, 3, 10, 8), (10, .iload_n 1, 1, 0, 0), (11, .iload_n 2, 1, 0, 0), (12, .invokevirtual 389, 3, 0, 59), (15, .ireturn, 1, 0, 0)]
/-- SerialGate.rests(II)I -/
def mm_M159 : mm_M := (yX10_rests, cX10_rests, 3, (some .int), 10, false, [], [], mm_k159)
theorem mm_d159 : mm_k159.all (fun q => mm_deq (decode cX10_rests q.1) q.2.1 q.2.2.1) = true := by decide +kernel
def mm_k160 : List mm_I := [(0, .iload_n 1, 1, 0, 0), (1, .ifCond .lt 17, 3, 0, 0), (4, .iload_n 1, 1, 0, 0), (5, .iconst 5, 1, 0, 0), (6, .if_icmp .gt 12, 3, 0, 0), (9, .iload_n 2, 1, 0, 0), (10, .ifCond .lt 8, 3, 0, 0), (13, .iload_n 2, 1, 0, 0), (14, .iconst 5, 1, 0, 0), (15, .if_icmp .le 14, 3, 0, 0), (18, .new 107, 3, 1, 8), (21, .dup, 1, 0, 0), (22, .ldc_w 392, 3, 0, 35), (25, .invokespecial 111, 3, 99, 0), (28, .athrow, 1, 0, 0), (29, .aload_n 0, 1, 0, 0), (30, .getfield 66, 3, 10, 8), (33, .iload_n 1, 1, 0, 0), (34, .iload_n 2, 1, 0, 0), (35, .invokevirtual 394, 3, 0, 61), (38, .ireturn, 1, 0, 0)]
/-- SerialGate.odds(II)I -/
def mm_M160 : mm_M := (yX10_odds, cX10_odds, 3, (some .int), 10, false, [], [], mm_k160)
theorem mm_d160 : mm_k160.all (fun q => mm_deq (decode cX10_odds q.1) q.2.1 q.2.2.1) = true := by decide +kernel
def mm_k161 : List mm_I := [(0, .iload_n 1, 1, 0, 0), (1, .iconst 2, 1, 0, 0), (2, .invokestatic 148, 3, 0, 184), (5, .aload_n 0, 1, 0, 0), (6, .getfield 40, 3, 10, 4), (9, .getfield 59, 3, 9, 1), (12, .astore_n 2, 1, 0, 0), (13, .iconst (-1), 1, 0, 0), (14, .istore_n 3, 1, 0, 0), (15, .iconst (-1), 1, 0, 0), (16, .istore 4, 2, 0, 0), (18, .iconst 0, 1, 0, 0), (19, .istore 5, 2, 0, 0), (21, .iload 5, 2, 0, 0), (23, .aload_n 2, 1, 0, 0), (24, .getfield 397, 3, 0, 0), (27, .if_icmp .ge 63, 3, 0, 0), (30, .iload_n 1, 1, 0, 0), (31, .ifCond .ne 13, 3, 0, 0), (34, .aload_n 2, 1, 0, 0), (35, .getfield 250, 3, 0, 5), (38, .iload 5, 2, 0, 0), (40, .iaload, 1, 0, 0), (41, .goto 27, 3, 0, 0), (44, .iload_n 1, 1, 0, 0), (45, .iconst 1, 1, 0, 0), (46, .if_icmp .ne 13, 3, 0, 0), (49, .aload_n 2, 1, 0, 0), (50, .getfield 247, 3, 0, 4), (53, .iload 5, 2, 0, 0), (55, .iaload, 1, 0, 0), (56, .goto 12, 3, 0, 0), (59, .aload_n 2, 1, 0, 0), (60, .iload 5, 2, 0, 0), (62, .invokevirtual 400, 3, 0, 4), (65, .invokestatic 403, 3, 0, 343), (68, .istore 6, 2, 0, 0), (70, .iload 6, 2, 0, 0), (72, .iload 4, 2, 0, 0), (74, .if_icmp .le 10, 3, 0, 0), (77, .iload 5, 2, 0, 0), (79, .istore_n 3, 1, 0, 0), (80, .iload 6, 2, 0, 0), (82, .istore 4, 2, 0, 0), (84, .iinc 5 1, 3, 0, 0), (87, .goto (-66), 3, 0, 0), (90, .iload_n 3, 1, 0, 0), (91, .ireturn, 1, 0, 0)]
/-- SerialGate.most(I)I -/
def mm_M161 : mm_M := (yX10_most, cX10_most, 7, (some .int), 10, false, [], [], mm_k161)
theorem mm_d161 : mm_k161.all (fun q => mm_deq (decode cX10_most q.1) q.2.1 q.2.2.1) = true := by decide +kernel
def mm_k162 : List mm_I := [(0, .aload_n 0, 1, 0, 0), (1, .getfield 40, 3, 10, 4), (4, .getfield 59, 3, 9, 1), (7, .invokevirtual 408, 3, 0, 10), (10, .ireturn, 1, 0, 0)]
/-- SerialGate.hot()I -/
def mm_M162 : mm_M := (yX10_hot, cX10_hot, 1, (some .int), 10, false, [], [], mm_k162)
theorem mm_d162 : mm_k162.all (fun q => mm_deq (decode cX10_hot q.1) q.2.1 q.2.2.1) = true := by decide +kernel
def mm_k163 : List mm_I := [(0, .aload_n 0, 1, 0, 0), (1, .getfield 40, 3, 10, 4), (4, .getfield 59, 3, 9, 1), (7, .invokevirtual 411, 3, 0, 11), (10, .ireturn, 1, 0, 0)]
/-- SerialGate.twins()I -/
def mm_M163 : mm_M := (yX10_twins, cX10_twins, 1, (some .int), 10, false, [], [], mm_k163)
theorem mm_d163 : mm_k163.all (fun q => mm_deq (decode cX10_twins q.1) q.2.1 q.2.2.1) = true := by decide +kernel
def mm_k164 : List mm_I := [(0, .aload_n 0, 1, 0, 0), (1, .getfield 10, 3, 10, 0), (4, .invokevirtual 414, 3, 0, 109), (7, .istore_n 1, 1, 0, 0), (8, .iload_n 1, 1, 0, 0), (9, .ifCond .eq 10, 3, 0, 0), (12, .aload_n 0, 1, 0, 0), (13, .invokevirtual 417, 3, 0, 167), (16, .goto 4, 3, 0, 0), (19, .iconst 0, 1, 0, 0), (20, .istore_n 2, 1, 0, 0), (21, .aload_n 0, 1, 0, 0), (22, .getfield 10, 3, 10, 0), (25, .invokevirtual 142, 3, 0, 99), (28, .iload_n 1, 1, 0, 0), (29, .invokestatic 420, 3, 0, 185), (32, .iload_n 2, 1, 0, 0), (33, .ireturn, 1, 0, 0)]
/-- SerialGate.who()I -/
def mm_M164 : mm_M := (yX10_who, cX10_who, 3, (some .int), 10, false, [], [], mm_k164)
theorem mm_d164 : mm_k164.all (fun q => mm_deq (decode cX10_who q.1) q.2.1 q.2.2.1) = true := by decide +kernel
def mm_k165 : List mm_I := [(0, .aload_n 0, 1, 0, 0), (1, .getfield 10, 3, 10, 0), (4, .invokevirtual 414, 3, 0, 109), (7, .istore_n 1, 1, 0, 0), (8, .iconst (-1), 1, 0, 0), (9, .istore_n 2, 1, 0, 0), (10, .iconst 2, 1, 0, 0), (11, .istore_n 3, 1, 0, 0), (12, .iconst 0, 1, 0, 0), (13, .istore 4, 2, 0, 0), (15, .iload_n 1, 1, 0, 0), (16, .ifCond .eq 44, 3, 0, 0), (19, .iload 4, 2, 0, 0), (21, .aload_n 0, 1, 0, 0), (22, .getfield 40, 3, 10, 4), (25, .getfield 59, 3, 9, 1), (28, .getfield 397, 3, 0, 0), (31, .if_icmp .ge 29, 3, 0, 0), (34, .aload_n 0, 1, 0, 0), (35, .iload 4, 2, 0, 0), (37, .invokevirtual 423, 3, 0, 168), (40, .istore 5, 2, 0, 0), (42, .iload 5, 2, 0, 0), (44, .iload_n 3, 1, 0, 0), (45, .if_icmp .ge 9, 3, 0, 0), (48, .iload 4, 2, 0, 0), (50, .istore_n 2, 1, 0, 0), (51, .iload 5, 2, 0, 0), (53, .istore_n 3, 1, 0, 0), (54, .iinc 4 1, 3, 0, 0), (57, .goto (-42), 3, 0, 0), (60, .aload_n 0, 1, 0, 0), (61, .getfield 10, 3, 10, 0), (64, .invokevirtual 142, 3, 0, 99), (67, .iload_n 1, 1, 0, 0), (68, .invokestatic 420, 3, 0, 185), (71, .iload_n 2, 1, 0, 0), (72, .ireturn, 1, 0, 0)]
/-- SerialGate.likely()I -/
def mm_M165 : mm_M := (yX10_likely, cX10_likely, 6, (some .int), 10, false, [], [], mm_k165)
theorem mm_d165 : mm_k165.all (fun q => mm_deq (decode cX10_likely q.1) q.2.1 q.2.2.1) = true := by decide +kernel
def mm_k166 : List mm_I := [(0, .aload_n 0, 1, 0, 0), (1, .getfield 10, 3, 10, 0), (4, .invokevirtual 414, 3, 0, 109), (7, .istore_n 1, 1, 0, 0), (8, .iload_n 1, 1, 0, 0), (9, .ifCond .eq 10, 3, 0, 0), (12, .aload_n 0, 1, 0, 0), (13, .invokevirtual 417, 3, 0, 167), (16, .goto 4, 3, 0, 0), (19, .iconst 0, 1, 0, 0), (20, .istore_n 2, 1, 0, 0), (21, .aload_n 0, 1, 0, 0), (22, .getfield 10, 3, 10, 0), (25, .invokevirtual 142, 3, 0, 99), (28, .iload_n 1, 1, 0, 0), (29, .invokestatic 420, 3, 0, 185), (32, .iload_n 2, 1, 0, 0), (33, .invokestatic 403, 3, 0, 343), (36, .istore_n 3, 1, 0, 0), (37, .iconst (-1), 1, 0, 0), (38, .istore 4, 2, 0, 0), (40, .iload_n 3, 1, 0, 0), (41, .iconst 1, 1, 0, 0), (42, .iadd, 1, 0, 0), (43, .istore 5, 2, 0, 0), (45, .iconst 0, 1, 0, 0), (46, .istore 6, 2, 0, 0), (48, .iload 6, 2, 0, 0), (50, .bipush 20, 2, 0, 0), (52, .if_icmp .ge 59, 3, 0, 0), (55, .iload_n 3, 1, 0, 0), (56, .iconst 2, 1, 0, 0), (57, .if_icmp .lt 54, 3, 0, 0), (60, .iload_n 2, 1, 0, 0), (61, .aload_n 0, 1, 0, 0), (62, .getfield 40, 3, 10, 4), (65, .getfield 59, 3, 9, 1), (68, .iload 6, 2, 0, 0), (70, .invokevirtual 426, 3, 0, 6), (73, .iand, 1, 0, 0), (74, .invokestatic 403, 3, 0, 343), (77, .istore 7, 2, 0, 0), (79, .iload 7, 2, 0, 0), (81, .iload_n 3, 1, 0, 0), (82, .iload 7, 2, 0, 0), (84, .isub, 1, 0, 0), (85, .invokestatic 429, 3, 0, 344), (88, .istore 8, 2, 0, 0), (90, .iload 8, 2, 0, 0), (92, .iload 5, 2, 0, 0), (94, .if_icmp .ge 11, 3, 0, 0), (97, .iload 6, 2, 0, 0), (99, .istore 4, 2, 0, 0), (101, .iload 8, 2, 0, 0), (103, .istore 5, 2, 0, 0), (105, .iinc 6 1, 3, 0, 0), (108, .goto (-60), 3, 0, 0), (111, .iload 4, 2, 0, 0), (113, .ireturn, 1, 0, 0)]
/-- SerialGate.ask()I -/
def mm_M166 : mm_M := (yX10_ask, cX10_ask, 9, (some .int), 10, false, [], [], mm_k166)
theorem mm_d166 : mm_k166.all (fun q => mm_deq (decode cX10_ask q.1) q.2.1 q.2.2.1) = true := by decide +kernel
def mm_k167 : List mm_I := [(0, .iconst 0, 1, 0, 0), (1, .istore_n 1, 1, 0, 0), (2, .iconst 0, 1, 0, 0), (3, .istore_n 2, 1, 0, 0), (4, .iload_n 2, 1, 0, 0), (5, .aload_n 0, 1, 0, 0), (6, .getfield 40, 3, 10, 4), (9, .getfield 59, 3, 9, 1), (12, .getfield 397, 3, 0, 0), (15, .if_icmp .ge 24, 3, 0, 0), (18, .aload_n 0, 1, 0, 0), (19, .iload_n 2, 1, 0, 0), (20, .invokevirtual 423, 3, 0, 168), (23, .iconst 1, 1, 0, 0), (24, .if_icmp .gt 9, 3, 0, 0), (27, .iload_n 1, 1, 0, 0), (28, .iconst 1, 1, 0, 0), (29, .iload_n 2, 1, 0, 0), (30, .ishl, 1, 0, 0), (31, .ior, 1, 0, 0), (32, .istore_n 1, 1, 0, 0), (33, .iinc 2 1, 3, 0, 0), (36, .goto (-32), 3, 0, 0), (39, .iload_n 1, 1, 0, 0), (40, .ireturn, 1, 0, 0)]
/-- SerialGate.fittingClients()I -/
def mm_M167 : mm_M := (yX10_fittingClients, cX10_fittingClients, 3, (some .int), 10, false, [], [], mm_k167)
theorem mm_d167 : mm_k167.all (fun q => mm_deq (decode cX10_fittingClients q.1) q.2.1 q.2.2.1) = true := by decide +kernel
def mm_k168 : List mm_I := [(0, .iconst 0, 1, 0, 0), (1, .istore_n 2, 1, 0, 0), (2, .iconst 0, 1, 0, 0), (3, .istore_n 3, 1, 0, 0), (4, .iload_n 3, 1, 0, 0), (5, .iconst 1, 1, 0, 0), (6, .iadd, 1, 0, 0), (7, .aload_n 0, 1, 0, 0), (8, .getfield 10, 3, 10, 0), (11, .getfield 88, 3, 8, 1), (14, .if_icmp .ge 53, 3, 0, 0), (17, .aload_n 0, 1, 0, 0), (18, .getfield 40, 3, 10, 4), (21, .getfield 59, 3, 9, 1), (24, .aload_n 0, 1, 0, 0), (25, .getfield 10, 3, 10, 0), (28, .getfield 434, 3, 8, 0), (31, .iload_n 3, 1, 0, 0), (32, .iaload, 1, 0, 0), (33, .invokevirtual 426, 3, 0, 6), (36, .iload_n 1, 1, 0, 0), (37, .ishr, 1, 0, 0), (38, .iconst 1, 1, 0, 0), (39, .iand, 1, 0, 0), (40, .istore 4, 2, 0, 0), (42, .iload 4, 2, 0, 0), (44, .aload_n 0, 1, 0, 0), (45, .getfield 10, 3, 10, 0), (48, .getfield 434, 3, 8, 0), (51, .iload_n 3, 1, 0, 0), (52, .iconst 1, 1, 0, 0), (53, .iadd, 1, 0, 0), (54, .iaload, 1, 0, 0), (55, .if_icmp .eq 6, 3, 0, 0), (58, .iinc 2 1, 3, 0, 0), (61, .iinc 3 2, 3, 0, 0), (64, .goto (-60), 3, 0, 0), (67, .iload_n 2, 1, 0, 0), (68, .ireturn, 1, 0, 0)]
/-- SerialGate.wrongRows(I)I -/
def mm_M168 : mm_M := (yX10_wrongRows, cX10_wrongRows, 5, (some .int), 10, false, [], [], mm_k168)
theorem mm_d168 : mm_k168.all (fun q => mm_deq (decode cX10_wrongRows q.1) q.2.1 q.2.2.1) = true := by decide +kernel
def mm_k169 : List mm_I := [(0, .aload_n 0, 1, 0, 0), (1, .getfield 40, 3, 10, 4), (4, .getfield 152, 3, 9, 2), (7, .getfield 319, 3, 6, 0), (10, .ireturn, 1, 0, 0)]
/-- SerialGate.running()I -/
def mm_M169 : mm_M := (yX10_running, cX10_running, 1, (some .int), 10, false, [], [], mm_k169)
theorem mm_d169 : mm_k169.all (fun q => mm_deq (decode cX10_running q.1) q.2.1 q.2.2.1) = true := by decide +kernel
def mm_k170 : List mm_I := [(0, .aload_n 0, 1, 0, 0), (1, .getfield 40, 3, 10, 4), (4, .getfield 152, 3, 9, 2), (7, .getfield 437, 3, 6, 1), (10, .ireturn, 1, 0, 0)]
/-- SerialGate.finished()I -/
def mm_M170 : mm_M := (yX10_finished, cX10_finished, 1, (some .int), 10, false, [], [], mm_k170)
theorem mm_d170 : mm_k170.all (fun q => mm_deq (decode cX10_finished q.1) q.2.1 q.2.2.1) = true := by decide +kernel
def mm_k171 : List mm_I := [(0, .iload_n 1, 1, 0, 0), (1, .invokestatic 440, 3, 0, 186), (4, .aload_n 0, 1, 0, 0), (5, .getfield 44, 3, 10, 5), (8, .aload_n 0, 1, 0, 0), (9, .getfield 40, 3, 10, 4), (12, .invokevirtual 95, 3, 0, 111), (15, .aload_n 0, 1, 0, 0), (16, .getfield 44, 3, 10, 5), (19, .iload_n 1, 1, 0, 0), (20, .invokevirtual 270, 3, 0, 112), (23, .pop, 1, 0, 0), (24, .iload_n 2, 1, 0, 0), (25, .ifCond .eq 13, 3, 0, 0), (28, .aload_n 0, 1, 0, 0), (29, .getfield 44, 3, 10, 5), (32, .getfield 443, 3, 9, 11), (35, .goto 13, 3, 0, 0), (38, .aload_n 0, 1, 0, 0), (39, .getfield 44, 3, 10, 5), (42, .getfield 59, 3, 9, 1), (45, .invokevirtual 446, 3, 0, 7), (48, .ireturn, 1, 0, 0)]
/-- SerialGate.trial(IZ)I -/
def mm_M171 : mm_M := (yX10_trial, cX10_trial, 3, (some .int), 10, false, [], [], mm_k171)
theorem mm_d171 : mm_k171.all (fun q => mm_deq (decode cX10_trial q.1) q.2.1 q.2.2.1) = true := by decide +kernel
def mm_k172 : List mm_I := [(0, .iload_n 1, 1, 0, 0), (1, .invokestatic 440, 3, 0, 186), (4, .iconst 0, 1, 0, 0), (5, .istore_n 3, 1, 0, 0), (6, .iconst 0, 1, 0, 0), (7, .istore 4, 2, 0, 0), (9, .iconst 1, 1, 0, 0), (10, .istore 5, 2, 0, 0), (12, .iload 5, 2, 0, 0), (14, .bipush 6, 2, 0, 0), (16, .if_icmp .gt 77, 3, 0, 0), (19, .aload_n 0, 1, 0, 0), (20, .getfield 44, 3, 10, 5), (23, .aload_n 0, 1, 0, 0), (24, .getfield 40, 3, 10, 4), (27, .invokevirtual 95, 3, 0, 111), (30, .aload_n 0, 1, 0, 0), (31, .getfield 44, 3, 10, 5), (34, .iload 5, 2, 0, 0), (36, .putfield 314, 3, 9, 12), (39, .aload_n 0, 1, 0, 0), (40, .getfield 44, 3, 10, 5), (43, .iload_n 1, 1, 0, 0), (44, .invokevirtual 270, 3, 0, 112), (47, .pop, 1, 0, 0), (48, .aload_n 0, 1, 0, 0), (49, .getfield 44, 3, 10, 5), (52, .getfield 59, 3, 9, 1), (55, .invokevirtual 446, 3, 0, 7), (58, .istore 6, 2, 0, 0), (60, .iload 5, 2, 0, 0), (62, .iconst 1, 1, 0, 0), (63, .if_icmp .ne 8, 3, 0, 0), (66, .iload 6, 2, 0, 0), (68, .goto 9, 3, 0, 0), (71, .iload_n 3, 1, 0, 0), (72, .iload 6, 2, 0, 0), (74, .invokestatic 449, 3, 0, 345), (77, .istore_n 3, 1, 0, 0), (78, .iload 4, 2, 0, 0), (80, .iload 6, 2, 0, 0), (82, .invokestatic 429, 3, 0, 344), (85, .istore 4, 2, 0, 0), (87, .iinc 5 1, 3, 0, 0), (90, .goto (-78), 3, 0, 0), (93, .iload_n 2, 1, 0, 0), (94, .ifCond .eq 8, 3, 0, 0), (97, .iload 4, 2, 0, 0), (99, .goto 4, 3, 0, 0), (102, .iload_n 3, 1, 0, 0), (103, .ireturn, 1, 0, 0)]
/-- SerialGate.span(IZ)I -/
def mm_M172 : mm_M := (yX10_span, cX10_span, 7, (some .int), 10, false, [], [], mm_k172)
theorem mm_d172 : mm_k172.all (fun q => mm_deq (decode cX10_span q.1) q.2.1 q.2.2.1) = true := by decide +kernel
def mm_k173 : List mm_I := [(0, .iload_n 1, 1, 0, 0), (1, .tableswitch 210 0 13 #[71, 82, 96, 110, 118, 126, 134, 142, 150, 161, 172, 183, 194, 205], 71, 0, 0), (72, .aload_n 0, 1, 0, 0), (73, .getfield 40, 3, 10, 4), (76, .getfield 59, 3, 9, 1), (79, .getfield 397, 3, 0, 0), (82, .ireturn, 1, 0, 0), (83, .aload_n 0, 1, 0, 0), (84, .getfield 40, 3, 10, 4), (87, .getfield 152, 3, 9, 2), (90, .getfield 319, 3, 6, 0), (93, .invokestatic 403, 3, 0, 343), (96, .ireturn, 1, 0, 0), (97, .aload_n 0, 1, 0, 0), (98, .getfield 40, 3, 10, 4), (101, .getfield 152, 3, 9, 2), (104, .getfield 437, 3, 6, 1), (107, .invokestatic 403, 3, 0, 343), (110, .ireturn, 1, 0, 0), (111, .aload_n 0, 1, 0, 0), (112, .getfield 40, 3, 10, 4), (115, .getfield 114, 3, 9, 13), (118, .ireturn, 1, 0, 0), (119, .aload_n 0, 1, 0, 0), (120, .getfield 19, 3, 10, 1), (123, .getfield 136, 3, 2, 0), (126, .ireturn, 1, 0, 0), (127, .aload_n 0, 1, 0, 0), (128, .getfield 40, 3, 10, 4), (131, .getfield 452, 3, 9, 9), (134, .ireturn, 1, 0, 0), (135, .aload_n 0, 1, 0, 0), (136, .getfield 40, 3, 10, 4), (139, .getfield 311, 3, 9, 10), (142, .ireturn, 1, 0, 0), (143, .aload_n 0, 1, 0, 0), (144, .getfield 40, 3, 10, 4), (147, .getfield 443, 3, 9, 11), (150, .ireturn, 1, 0, 0), (151, .aload_n 0, 1, 0, 0), (152, .getfield 40, 3, 10, 4), (155, .getfield 152, 3, 9, 2), (158, .invokevirtual 455, 3, 0, 77), (161, .ireturn, 1, 0, 0), (162, .aload_n 0, 1, 0, 0), (163, .getfield 40, 3, 10, 4), (166, .getfield 328, 3, 9, 3), (169, .getfield 332, 3, 1, 0), (172, .ireturn, 1, 0, 0), (173, .aload_n 0, 1, 0, 0), (174, .getfield 40, 3, 10, 4), (177, .getfield 59, 3, 9, 1), (180, .invokevirtual 446, 3, 0, 7), (183, .ireturn, 1, 0, 0), (184, .aload_n 0, 1, 0, 0), (185, .getfield 40, 3, 10, 4), (188, .getfield 59, 3, 9, 1), (191, .invokevirtual 458, 3, 0, 8), (194, .ireturn, 1, 0, 0), (195, .aload_n 0, 1, 0, 0), (196, .getfield 40, 3, 10, 4), (199, .getfield 357, 3, 9, 4), (202, .getfield 461, 3, 4, 0), (205, .ireturn, 1, 0, 0), (206, .aload_n 0, 1, 0, 0), (207, .getfield 78, 3, 10, 11), (210, .ireturn, 1, 0, 0), (211, .iconst (-1), 1, 0, 0), (212, .ireturn, 1, 0, 0)]
/-- SerialGate.count(I)I -/
def mm_M173 : mm_M := (yX10_count, cX10_count, 2, (some .int), 10, false, [], [], mm_k173)
theorem mm_d173 : mm_k173.all (fun q => mm_deq (decode cX10_count q.1) q.2.1 q.2.2.1) = true := by decide +kernel
def mm_k174 : List mm_I := [(0, .aload_n 0, 1, 0, 0), (1, .getfield 78, 3, 10, 11), (4, .ifCond .ne 5, 3, 0, 0), (7, .iconst 0, 1, 0, 0), (8, .ireturn, 1, 0, 0), (9, .aload_n 0, 1, 0, 0), (10, .aload_n 0, 1, 0, 0), (11, .getfield 74, 3, 10, 10), (14, .bipush 12, 2, 0, 0), (16, .iadd, 1, 0, 0), (17, .iconst 1, 1, 0, 0), (18, .isub, 1, 0, 0), (19, .bipush 12, 2, 0, 0), (21, .irem, 1, 0, 0), (22, .putfield 74, 3, 10, 10), (25, .aload_n 0, 1, 0, 0), (26, .dup, 1, 0, 0), (27, .getfield 78, 3, 10, 11), (30, .iconst 1, 1, 0, 0), (31, .isub, 1, 0, 0), (32, .putfield 78, 3, 10, 11), (35, .aload_n 0, 1, 0, 0), (36, .getfield 40, 3, 10, 4), (39, .aload_n 0, 1, 0, 0), (40, .getfield 70, 3, 10, 9), (43, .aload_n 0, 1, 0, 0), (44, .getfield 74, 3, 10, 10), (47, .aaload, 1, 0, 0), (48, .invokevirtual 95, 3, 0, 111), (51, .iconst 1, 1, 0, 0), (52, .ireturn, 1, 0, 0)]
/-- SerialGate.undo()Z -/
def mm_M174 : mm_M := (yX10_undo, cX10_undo, 1, (some .boolean), 10, false, [], [], mm_k174)
theorem mm_d174 : mm_k174.all (fun q => mm_deq (decode cX10_undo q.1) q.2.1 q.2.2.1) = true := by decide +kernel
def mm_k175 : List mm_I := [(0, .aload_n 0, 1, 0, 0), (1, .getfield 47, 3, 10, 6), (4, .aload_n 0, 1, 0, 0), (5, .getfield 40, 3, 10, 4), (8, .invokevirtual 95, 3, 0, 111), (11, .aload_n 0, 1, 0, 0), (12, .getfield 23, 3, 10, 2), (15, .aload_n 0, 1, 0, 0), (16, .getfield 19, 3, 10, 1), (19, .invokevirtual 134, 3, 0, 21), (22, .aload_n 0, 1, 0, 0), (23, .iconst 1, 1, 0, 0), (24, .putfield 81, 3, 10, 12), (27, .return_, 1, 0, 0)]
/-- SerialGate.image()V -/
def mm_M175 : mm_M := (yX10_image, cX10_image, 1, none, 10, false, [], [], mm_k175)
theorem mm_d175 : mm_k175.all (fun q => mm_deq (decode cX10_image q.1) q.2.1 q.2.2.1) = true := by decide +kernel
def mm_k176 : List mm_I := [(0, .aload_n 0, 1, 0, 0), (1, .getfield 81, 3, 10, 12), (4, .ifCond .ne 5, 3, 0, 0), (7, .iconst 0, 1, 0, 0), (8, .ireturn, 1, 0, 0), (9, .aload_n 0, 1, 0, 0), (10, .getfield 40, 3, 10, 4), (13, .aload_n 0, 1, 0, 0), (14, .getfield 47, 3, 10, 6), (17, .invokevirtual 95, 3, 0, 111), (20, .aload_n 0, 1, 0, 0), (21, .getfield 19, 3, 10, 1), (24, .aload_n 0, 1, 0, 0), (25, .getfield 23, 3, 10, 2), (28, .invokevirtual 134, 3, 0, 21), (31, .aload_n 0, 1, 0, 0), (32, .invokevirtual 125, 3, 0, 178), (35, .iconst 1, 1, 0, 0), (36, .ireturn, 1, 0, 0)]
/-- SerialGate.back()Z -/
def mm_M176 : mm_M := (yX10_back, cX10_back, 1, (some .boolean), 10, false, [], [], mm_k176)
theorem mm_d176 : mm_k176.all (fun q => mm_deq (decode cX10_back q.1) q.2.1 q.2.2.1) = true := by decide +kernel
def mm_k177 : List mm_I := [(0, .aload_n 0, 1, 0, 0), (1, .getfield 70, 3, 10, 9), (4, .aload_n 0, 1, 0, 0), (5, .getfield 74, 3, 10, 10), (8, .aaload, 1, 0, 0), (9, .aload_n 0, 1, 0, 0), (10, .getfield 40, 3, 10, 4), (13, .invokevirtual 95, 3, 0, 111), (16, .aload_n 0, 1, 0, 0), (17, .aload_n 0, 1, 0, 0), (18, .getfield 74, 3, 10, 10), (21, .iconst 1, 1, 0, 0), (22, .iadd, 1, 0, 0), (23, .bipush 12, 2, 0, 0), (25, .irem, 1, 0, 0), (26, .putfield 74, 3, 10, 10), (29, .aload_n 0, 1, 0, 0), (30, .bipush 12, 2, 0, 0), (32, .aload_n 0, 1, 0, 0), (33, .getfield 78, 3, 10, 11), (36, .iconst 1, 1, 0, 0), (37, .iadd, 1, 0, 0), (38, .invokestatic 449, 3, 0, 345), (41, .putfield 78, 3, 10, 11), (44, .return_, 1, 0, 0)]
/-- SerialGate.remember()V -/
def mm_M177 : mm_M := (yX10_remember, cX10_remember, 1, none, 10, false, [], [], mm_k177)
theorem mm_d177 : mm_k177.all (fun q => mm_deq (decode cX10_remember q.1) q.2.1 q.2.2.1) = true := by decide +kernel
def mm_k178 : List mm_I := [(0, .aload_n 0, 1, 0, 0), (1, .iconst 0, 1, 0, 0), (2, .putfield 78, 3, 10, 11), (5, .return_, 1, 0, 0)]
/-- SerialGate.forgetActs()V -/
def mm_M178 : mm_M := (yX10_forgetActs, cX10_forgetActs, 1, none, 10, false, [], [], mm_k178)
theorem mm_d178 : mm_k178.all (fun q => mm_deq (decode cX10_forgetActs q.1) q.2.1 q.2.2.1) = true := by decide +kernel
def mm_k179 : List mm_I := [(0, .iload_n 0, 1, 0, 0), (1, .ifCond .lt 9, 3, 0, 0), (4, .iload_n 0, 1, 0, 0), (5, .bipush 8, 2, 0, 0), (7, .if_icmp .lt 14, 3, 0, 0), (10, .new 462, 3, 1, 9), (13, .dup, 1, 0, 0), (14, .ldc_w 464, 3, 0, 23), (17, .invokespecial 466, 3, 99, 0), (20, .athrow, 1, 0, 0), (21, .return_, 1, 0, 0)]
/-- SerialGate.needSlot(I)V -/
def mm_M179 : mm_M := (yX10_needSlot, cX10_needSlot, 1, none, 10, false, [], [], mm_k179)
theorem mm_d179 : mm_k179.all (fun q => mm_deq (decode cX10_needSlot q.1) q.2.1 q.2.2.1) = true := by decide +kernel
end
section
def mm_k180 : List mm_I := [(0, .iload_n 0, 1, 0, 0), (1, .ifCond .lt 9, 3, 0, 0), (4, .iload_n 0, 1, 0, 0), (5, .bipush 10, 2, 0, 0), (7, .if_icmp .lt 14, 3, 0, 0), (10, .new 462, 3, 1, 10), (13, .dup, 1, 0, 0), (14, .ldc_w 467, 3, 0, 25), (17, .invokespecial 466, 3, 99, 0), (20, .athrow, 1, 0, 0), (21, .return_, 1, 0, 0)]
/-- SerialGate.needKey(I)V -/
def mm_M180 : mm_M := (yX10_needKey, cX10_needKey, 1, none, 10, false, [], [], mm_k180)
theorem mm_d180 : mm_k180.all (fun q => mm_deq (decode cX10_needKey q.1) q.2.1 q.2.2.1) = true := by decide +kernel
def mm_k181 : List mm_I := [(0, .iload_n 1, 1, 0, 0), (1, .ifCond .lt 17, 3, 0, 0), (4, .iload_n 1, 1, 0, 0), (5, .aload_n 0, 1, 0, 0), (6, .getfield 40, 3, 10, 4), (9, .getfield 59, 3, 9, 1), (12, .getfield 397, 3, 0, 0), (15, .if_icmp .lt 14, 3, 0, 0), (18, .new 462, 3, 1, 11), (21, .dup, 1, 0, 0), (22, .ldc_w 469, 3, 0, 26), (25, .invokespecial 466, 3, 99, 0), (28, .athrow, 1, 0, 0), (29, .return_, 1, 0, 0)]
/-- SerialGate.needClient(I)V -/
def mm_M181 : mm_M := (yX10_needClient, cX10_needClient, 2, none, 10, false, [], [], mm_k181)
theorem mm_d181 : mm_k181.all (fun q => mm_deq (decode cX10_needClient q.1) q.2.1 q.2.2.1) = true := by decide +kernel
def mm_k182 : List mm_I := [(0, .aload_n 0, 1, 0, 0), (1, .iload_n 1, 1, 0, 0), (2, .invokevirtual 233, 3, 0, 181), (5, .aload_n 0, 1, 0, 0), (6, .iload_n 2, 1, 0, 0), (7, .invokevirtual 233, 3, 0, 181), (10, .iload_n 1, 1, 0, 0), (11, .iload_n 2, 1, 0, 0), (12, .if_icmp .ne 14, 3, 0, 0), (15, .new 107, 3, 1, 12), (18, .dup, 1, 0, 0), (19, .ldc_w 471, 3, 0, 33), (22, .invokespecial 111, 3, 99, 0), (25, .athrow, 1, 0, 0), (26, .return_, 1, 0, 0)]
/-- SerialGate.needTwo(II)V -/
def mm_M182 : mm_M := (yX10_needTwo, cX10_needTwo, 3, none, 10, false, [], [], mm_k182)
theorem mm_d182 : mm_k182.all (fun q => mm_deq (decode cX10_needTwo q.1) q.2.1 q.2.2.1) = true := by decide +kernel
def mm_k183 : List mm_I := [(0, .aload_n 0, 1, 0, 0), (1, .getfield 40, 3, 10, 4), (4, .getfield 152, 3, 9, 2), (7, .iload_n 1, 1, 0, 0), (8, .invokevirtual 156, 3, 0, 64), (11, .ifCond .ne 14, 3, 0, 0), (14, .new 277, 3, 1, 13), (17, .dup, 1, 0, 0), (18, .ldc_w 473, 3, 0, 29), (21, .invokespecial 281, 3, 99, 0), (24, .athrow, 1, 0, 0), (25, .return_, 1, 0, 0)]
/-- SerialGate.needRunning(I)V -/
def mm_M183 : mm_M := (yX10_needRunning, cX10_needRunning, 2, none, 10, false, [], [], mm_k183)
theorem mm_d183 : mm_k183.all (fun q => mm_deq (decode cX10_needRunning q.1) q.2.1 q.2.2.1) = true := by decide +kernel
def mm_k184 : List mm_I := [(0, .iload_n 0, 1, 0, 0), (1, .ifCond .lt 8, 3, 0, 0), (4, .iload_n 0, 1, 0, 0), (5, .iload_n 1, 1, 0, 0), (6, .if_icmp .le 14, 3, 0, 0), (9, .new 475, 3, 1, 14), (12, .dup, 1, 0, 0), (13, .ldc_w 477, 3, 0, 24), (16, .invokespecial 479, 3, 99, 0), (19, .athrow, 1, 0, 0), (20, .return_, 1, 0, 0)]
/-- SerialGate.needWhat(II)V -/
def mm_M184 : mm_M := (yX10_needWhat, cX10_needWhat, 2, none, 10, false, [], [], mm_k184)
theorem mm_d184 : mm_k184.all (fun q => mm_deq (decode cX10_needWhat q.1) q.2.1 q.2.2.1) = true := by decide +kernel
def mm_k185 : List mm_I := [(0, .iload_n 0, 1, 0, 0), (1, .ifCond .ne 14, 3, 0, 0), (4, .new 107, 3, 1, 15), (7, .dup, 1, 0, 0), (8, .ldc_w 480, 3, 0, 34), (11, .invokespecial 111, 3, 99, 0), (14, .athrow, 1, 0, 0), (15, .return_, 1, 0, 0)]
/-- SerialGate.needTold(Z)V -/
def mm_M185 : mm_M := (yX10_needTold, cX10_needTold, 1, none, 10, false, [], [], mm_k185)
theorem mm_d185 : mm_k185.all (fun q => mm_deq (decode cX10_needTold q.1) q.2.1 q.2.2.1) = true := by decide +kernel
def mm_k186 : List mm_I := [(0, .iload_n 0, 1, 0, 0), (1, .ifCond .lt 9, 3, 0, 0), (4, .iload_n 0, 1, 0, 0), (5, .bipush 60, 2, 0, 0), (7, .if_icmp .le 14, 3, 0, 0), (10, .new 107, 3, 1, 16), (13, .dup, 1, 0, 0), (14, .ldc_w 482, 3, 0, 36), (17, .invokespecial 111, 3, 99, 0), (20, .athrow, 1, 0, 0), (21, .return_, 1, 0, 0)]
/-- SerialGate.needTrial(I)V -/
def mm_M186 : mm_M := (yX10_needTrial, cX10_needTrial, 1, none, 10, false, [], [], mm_k186)
theorem mm_d186 : mm_k186.all (fun q => mm_deq (decode cX10_needTrial q.1) q.2.1 q.2.2.1) = true := by decide +kernel
def mm_k187 : List mm_I := [(0, .aload_n 0, 1, 0, 0), (1, .getfield 3, 3, 11, 0), (4, .ireturn, 1, 0, 0)]
/-- SerialGateModel.thrown()I -/
def mm_M187 : mm_M := (yX11_thrown, cX11_thrown, 1, (some .int), 11, false, [], [], mm_k187)
theorem mm_d187 : mm_k187.all (fun q => mm_deq (decode cX11_thrown q.1) q.2.1 q.2.2.1) = true := by decide +kernel
def mm_k188 : List mm_I := [(0, .iload_n 1, 1, 0, 0), (1, .ifCond .eq 8, 3, 0, 0), (4, .aload_n 0, 1, 0, 0), (5, .iload_n 2, 1, 0, 0), (6, .putfield 3, 3, 11, 0), (9, .iload_n 1, 1, 0, 0), (10, .ireturn, 1, 0, 0)]
/-- SerialGateModel.throwsIf(ZI)Z -/
def mm_M188 : mm_M := (yX11_throwsIf, cX11_throwsIf, 3, (some .boolean), 11, false, [], [], mm_k188)
theorem mm_d188 : mm_k188.all (fun q => mm_deq (decode cX11_throwsIf q.1) q.2.1 q.2.2.1) = true := by decide +kernel
def mm_k189 : List mm_I := [(0, .iload_n 0, 1, 0, 0), (1, .iload_n 1, 1, 0, 0), (2, .if_icmp .lt 12, 3, 0, 0), (5, .iload_n 0, 1, 0, 0), (6, .iload_n 2, 1, 0, 0), (7, .if_icmp .gt 7, 3, 0, 0), (10, .iconst 1, 1, 0, 0), (11, .goto 4, 3, 0, 0), (14, .iconst 0, 1, 0, 0), (15, .ireturn, 1, 0, 0)]
/-- SerialGateModel.in(III)Z -/
def mm_M189 : mm_M := (yX11_in, cX11_in, 3, (some .boolean), 11, false, [], [], mm_k189)
theorem mm_d189 : mm_k189.all (fun q => mm_deq (decode cX11_in q.1) q.2.1 q.2.2.1) = true := by decide +kernel
def mm_k190 : List mm_I := [(0, .iload_n 0, 1, 0, 0), (1, .iload_n 1, 1, 0, 0), (2, .ishr, 1, 0, 0), (3, .iconst 1, 1, 0, 0), (4, .iand, 1, 0, 0), (5, .iconst 1, 1, 0, 0), (6, .if_icmp .ne 7, 3, 0, 0), (9, .iconst 1, 1, 0, 0), (10, .goto 4, 3, 0, 0), (13, .iconst 0, 1, 0, 0), (14, .ireturn, 1, 0, 0)]
/-- SerialGateModel.has(II)Z -/
def mm_M190 : mm_M := (yX11_has, cX11_has, 2, (some .boolean), 11, false, [], [], mm_k190)
theorem mm_d190 : mm_k190.all (fun q => mm_deq (decode cX11_has q.1) q.2.1 q.2.2.1) = true := by decide +kernel
def mm_k191 : List mm_I := [(0, .aload_n 0, 1, 0, 0), (1, .invokespecial 7, 3, 1, 0), (4, .aload_n 0, 1, 0, 0), (5, .sipush 2468, 3, 0, 0), (8, .newarray .int, 2, 0, 0), (10, .putfield 13, 3, 11, 1), (13, .aload_n 0, 1, 0, 0), (14, .sipush 1619, 3, 0, 0), (17, .newarray .int, 2, 0, 0), (19, .putfield 17, 3, 11, 2), (22, .aload_n 0, 1, 0, 0), (23, .sipush 1619, 3, 0, 0), (26, .newarray .int, 2, 0, 0), (28, .putfield 20, 3, 11, 3), (31, .aload_n 0, 1, 0, 0), (32, .sipush 770, 3, 0, 0), (35, .newarray .int, 2, 0, 0), (37, .putfield 23, 3, 11, 4), (40, .aload_n 0, 1, 0, 0), (41, .sipush 9240, 3, 0, 0), (44, .newarray .int, 2, 0, 0), (46, .putfield 26, 3, 11, 5), (49, .aload_n 0, 1, 0, 0), (50, .sipush 400, 3, 0, 0), (53, .newarray .byte, 2, 0, 0), (55, .putfield 29, 3, 11, 8), (58, .aload_n 0, 1, 0, 0), (59, .iconst (-1), 1, 0, 0), (60, .putfield 33, 3, 11, 14), (63, .aload_n 0, 1, 0, 0), (64, .iconst 5, 1, 0, 0), (65, .newarray .int, 2, 0, 0), (67, .putfield 36, 3, 11, 15), (70, .aload_n 0, 1, 0, 0), (71, .sipush 400, 3, 0, 0), (74, .newarray .int, 2, 0, 0), (76, .putfield 39, 3, 11, 17), (79, .aload_n 0, 1, 0, 0), (80, .iconst 5, 1, 0, 0), (81, .newarray .int, 2, 0, 0), (83, .putfield 42, 3, 11, 19), (86, .aload_n 0, 1, 0, 0), (87, .bipush 32, 2, 0, 0), (89, .newarray .int, 2, 0, 0), (91, .putfield 45, 3, 11, 21), (94, .aload_n 0, 1, 0, 0), (95, .bipush 6, 2, 0, 0), (97, .newarray .long, 2, 0, 0), (99, .putfield 48, 3, 11, 22), (102, .aload_n 0, 1, 0, 0), (103, .getfield 13, 3, 11, 1), (106, .bipush 8, 2, 0, 0), (108, .iconst 1, 1, 0, 0), (109, .iastore, 1, 0, 0), (110, .aload_n 0, 1, 0, 0), (111, .getfield 13, 3, 11, 1), (114, .iconst 4, 1, 0, 0), (115, .iconst 3, 1, 0, 0), (116, .iastore, 1, 0, 0), (117, .return_, 1, 0, 0)]
/-- SerialGateModel.<init>()V -/
def mm_M191 : mm_M := (yX11_init, cX11_init, 1, none, 11, true, [], [], mm_k191)
theorem mm_d191 : mm_k191.all (fun q => mm_deq (decode cX11_init q.1) q.2.1 q.2.2.1) = true := by decide +kernel
def mm_k192 : List mm_I := [(0, .aload_n 0, 1, 0, 0), (1, .iconst 0, 1, 0, 0), (2, .putfield 3, 3, 11, 0), (5, .iconst 0, 1, 0, 0), (6, .istore_n 1, 1, 0, 0), (7, .iload_n 1, 1, 0, 0), (8, .sipush 1619, 3, 0, 0), (11, .if_icmp .ge 21, 3, 0, 0), (14, .aload_n 0, 1, 0, 0), (15, .getfield 17, 3, 11, 2), (18, .iload_n 1, 1, 0, 0), (19, .aload_n 0, 1, 0, 0), (20, .getfield 13, 3, 11, 1), (23, .iload_n 1, 1, 0, 0), (24, .iaload, 1, 0, 0), (25, .iastore, 1, 0, 0), (26, .iinc 1 1, 3, 0, 0), (29, .goto (-22), 3, 0, 0), (32, .aload_n 0, 1, 0, 0), (33, .iconst 1, 1, 0, 0), (34, .putfield 52, 3, 11, 6), (37, .return_, 1, 0, 0)]
/-- SerialGateModel.image()V -/
def mm_M192 : mm_M := (yX11_image, cX11_image, 2, none, 11, false, [], [], mm_k192)
theorem mm_d192 : mm_k192.all (fun q => mm_deq (decode cX11_image q.1) q.2.1 q.2.2.1) = true := by decide +kernel
def mm_k193 : List mm_I := [(0, .aload_n 0, 1, 0, 0), (1, .iconst 0, 1, 0, 0), (2, .putfield 3, 3, 11, 0), (5, .aload_n 0, 1, 0, 0), (6, .getfield 52, 3, 11, 6), (9, .ifCond .ne 5, 3, 0, 0), (12, .iconst 0, 1, 0, 0), (13, .ireturn, 1, 0, 0), (14, .iconst 0, 1, 0, 0), (15, .istore_n 1, 1, 0, 0), (16, .iload_n 1, 1, 0, 0), (17, .sipush 1619, 3, 0, 0), (20, .if_icmp .ge 21, 3, 0, 0), (23, .aload_n 0, 1, 0, 0), (24, .getfield 13, 3, 11, 1), (27, .iload_n 1, 1, 0, 0), (28, .aload_n 0, 1, 0, 0), (29, .getfield 17, 3, 11, 2), (32, .iload_n 1, 1, 0, 0), (33, .iaload, 1, 0, 0), (34, .iastore, 1, 0, 0), (35, .iinc 1 1, 3, 0, 0), (38, .goto (-22), 3, 0, 0), (41, .aload_n 0, 1, 0, 0), (42, .iconst 0, 1, 0, 0), (43, .putfield 56, 3, 11, 7), (46, .iconst 1, 1, 0, 0), (47, .ireturn, 1, 0, 0)]
/-- SerialGateModel.back()Z -/
def mm_M193 : mm_M := (yX11_back, cX11_back, 2, (some .boolean), 11, false, [], [], mm_k193)
theorem mm_d193 : mm_k193.all (fun q => mm_deq (decode cX11_back q.1) q.2.1 q.2.2.1) = true := by decide +kernel
def mm_k194 : List mm_I := [(0, .aload_n 0, 1, 0, 0), (1, .getfield 56, 3, 11, 7), (4, .bipush 12, 2, 0, 0), (6, .if_icmp .ne 37, 3, 0, 0), (9, .iconst 0, 1, 0, 0), (10, .istore_n 1, 1, 0, 0), (11, .iload_n 1, 1, 0, 0), (12, .sipush 8470, 3, 0, 0), (15, .if_icmp .ge 25, 3, 0, 0), (18, .aload_n 0, 1, 0, 0), (19, .getfield 26, 3, 11, 5), (22, .iload_n 1, 1, 0, 0), (23, .aload_n 0, 1, 0, 0), (24, .getfield 26, 3, 11, 5), (27, .iload_n 1, 1, 0, 0), (28, .sipush 770, 3, 0, 0), (31, .iadd, 1, 0, 0), (32, .iaload, 1, 0, 0), (33, .iastore, 1, 0, 0), (34, .iinc 1 1, 3, 0, 0), (37, .goto (-26), 3, 0, 0), (40, .goto 13, 3, 0, 0), (43, .aload_n 0, 1, 0, 0), (44, .dup, 1, 0, 0), (45, .getfield 56, 3, 11, 7), (48, .iconst 1, 1, 0, 0), (49, .iadd, 1, 0, 0), (50, .putfield 56, 3, 11, 7), (53, .iconst 0, 1, 0, 0), (54, .istore_n 1, 1, 0, 0), (55, .iload_n 1, 1, 0, 0), (56, .sipush 770, 3, 0, 0), (59, .if_icmp .ge 32, 3, 0, 0), (62, .aload_n 0, 1, 0, 0), (63, .getfield 26, 3, 11, 5), (66, .sipush 770, 3, 0, 0), (69, .aload_n 0, 1, 0, 0), (70, .getfield 56, 3, 11, 7), (73, .iconst 1, 1, 0, 0), (74, .isub, 1, 0, 0), (75, .imul, 1, 0, 0), (76, .iload_n 1, 1, 0, 0), (77, .iadd, 1, 0, 0), (78, .aload_n 0, 1, 0, 0), (79, .getfield 13, 3, 11, 1), (82, .iload_n 1, 1, 0, 0), (83, .iaload, 1, 0, 0), (84, .iastore, 1, 0, 0), (85, .iinc 1 1, 3, 0, 0), (88, .goto (-33), 3, 0, 0), (91, .return_, 1, 0, 0)]
/-- SerialGateModel.remembers()V -/
def mm_M194 : mm_M := (yX11_remembers, cX11_remembers, 2, none, 11, false, [], [], mm_k194)
theorem mm_d194 : mm_k194.all (fun q => mm_deq (decode cX11_remembers q.1) q.2.1 q.2.2.1) = true := by decide +kernel
def mm_k195 : List mm_I := [(0, .aload_n 0, 1, 0, 0), (1, .iconst 0, 1, 0, 0), (2, .putfield 3, 3, 11, 0), (5, .aload_n 0, 1, 0, 0), (6, .getfield 56, 3, 11, 7), (9, .ifCond .ne 5, 3, 0, 0), (12, .iconst 0, 1, 0, 0), (13, .ireturn, 1, 0, 0), (14, .aload_n 0, 1, 0, 0), (15, .dup, 1, 0, 0), (16, .getfield 56, 3, 11, 7), (19, .iconst 1, 1, 0, 0), (20, .isub, 1, 0, 0), (21, .putfield 56, 3, 11, 7), (24, .iconst 0, 1, 0, 0), (25, .istore_n 1, 1, 0, 0), (26, .iload_n 1, 1, 0, 0), (27, .sipush 770, 3, 0, 0), (30, .if_icmp .ge 30, 3, 0, 0), (33, .aload_n 0, 1, 0, 0), (34, .getfield 13, 3, 11, 1), (37, .iload_n 1, 1, 0, 0), (38, .aload_n 0, 1, 0, 0), (39, .getfield 26, 3, 11, 5), (42, .sipush 770, 3, 0, 0), (45, .aload_n 0, 1, 0, 0), (46, .getfield 56, 3, 11, 7), (49, .imul, 1, 0, 0), (50, .iload_n 1, 1, 0, 0), (51, .iadd, 1, 0, 0), (52, .iaload, 1, 0, 0), (53, .iastore, 1, 0, 0), (54, .iinc 1 1, 3, 0, 0), (57, .goto (-31), 3, 0, 0), (60, .iconst 1, 1, 0, 0), (61, .ireturn, 1, 0, 0)]
/-- SerialGateModel.undo()Z -/
def mm_M195 : mm_M := (yX11_undo, cX11_undo, 2, (some .boolean), 11, false, [], [], mm_k195)
theorem mm_d195 : mm_k195.all (fun q => mm_deq (decode cX11_undo q.1) q.2.1 q.2.2.1) = true := by decide +kernel
def mm_k196 : List mm_I := [(0, .iconst 0, 1, 0, 0), (1, .istore_n 1, 1, 0, 0), (2, .iload_n 1, 1, 0, 0), (3, .sipush 770, 3, 0, 0), (6, .if_icmp .ge 21, 3, 0, 0), (9, .aload_n 0, 1, 0, 0), (10, .getfield 23, 3, 11, 4), (13, .iload_n 1, 1, 0, 0), (14, .aload_n 0, 1, 0, 0), (15, .getfield 13, 3, 11, 1), (18, .iload_n 1, 1, 0, 0), (19, .iaload, 1, 0, 0), (20, .iastore, 1, 0, 0), (21, .iinc 1 1, 3, 0, 0), (24, .goto (-22), 3, 0, 0), (27, .return_, 1, 0, 0)]
/-- SerialGateModel.keepsAll()V -/
def mm_M196 : mm_M := (yX11_keepsAll, cX11_keepsAll, 2, none, 11, false, [], [], mm_k196)
theorem mm_d196 : mm_k196.all (fun q => mm_deq (decode cX11_keepsAll q.1) q.2.1 q.2.2.1) = true := by decide +kernel
def mm_k197 : List mm_I := [(0, .iconst 0, 1, 0, 0), (1, .istore_n 1, 1, 0, 0), (2, .iload_n 1, 1, 0, 0), (3, .sipush 770, 3, 0, 0), (6, .if_icmp .ge 21, 3, 0, 0), (9, .aload_n 0, 1, 0, 0), (10, .getfield 13, 3, 11, 1), (13, .iload_n 1, 1, 0, 0), (14, .aload_n 0, 1, 0, 0), (15, .getfield 23, 3, 11, 4), (18, .iload_n 1, 1, 0, 0), (19, .iaload, 1, 0, 0), (20, .iastore, 1, 0, 0), (21, .iinc 1 1, 3, 0, 0), (24, .goto (-22), 3, 0, 0), (27, .return_, 1, 0, 0)]
/-- SerialGateModel.bringsBack()V -/
def mm_M197 : mm_M := (yX11_bringsBack, cX11_bringsBack, 2, none, 11, false, [], [], mm_k197)
theorem mm_d197 : mm_k197.all (fun q => mm_deq (decode cX11_bringsBack q.1) q.2.1 q.2.2.1) = true := by decide +kernel
def mm_k198 : List mm_I := [(0, .aload_n 0, 1, 0, 0), (1, .getfield 13, 3, 11, 1), (4, .iconst 0, 1, 0, 0), (5, .iaload, 1, 0, 0), (6, .ireturn, 1, 0, 0)]
/-- SerialGateModel.clients()I -/
def mm_M198 : mm_M := (yX11_clients, cX11_clients, 1, (some .int), 11, false, [], [], mm_k198)
theorem mm_d198 : mm_k198.all (fun q => mm_deq (decode cX11_clients q.1) q.2.1 q.2.2.1) = true := by decide +kernel
def mm_k199 : List mm_I := [(0, .bipush 9, 2, 0, 0), (2, .iconst 4, 1, 0, 0), (3, .iload_n 0, 1, 0, 0), (4, .imul, 1, 0, 0), (5, .iadd, 1, 0, 0), (6, .iload_n 1, 1, 0, 0), (7, .iadd, 1, 0, 0), (8, .ireturn, 1, 0, 0)]
/-- SerialGateModel.keyAt(II)I -/
def mm_M199 : mm_M := (yX11_keyAt, cX11_keyAt, 2, (some .int), 11, false, [], [], mm_k199)
theorem mm_d199 : mm_k199.all (fun q => mm_deq (decode cX11_keyAt q.1) q.2.1 q.2.2.1) = true := by decide +kernel
def mm_k200 : List mm_I := [(0, .aload_n 0, 1, 0, 0), (1, .getfield 13, 3, 11, 1), (4, .iload_n 1, 1, 0, 0), (5, .iload_n 2, 1, 0, 0), (6, .invokestatic 59, 3, 0, 199), (9, .iaload, 1, 0, 0), (10, .ireturn, 1, 0, 0)]
/-- SerialGateModel.ofKey(II)I -/
def mm_M200 : mm_M := (yX11_ofKey, cX11_ofKey, 3, (some .int), 11, false, [], [], mm_k200)
theorem mm_d200 : mm_k200.all (fun q => mm_deq (decode cX11_ofKey q.1) q.2.1 q.2.2.1) = true := by decide +kernel
def mm_k201 : List mm_I := [(0, .bipush 49, 2, 0, 0), (2, .iconst 5, 1, 0, 0), (3, .iload_n 0, 1, 0, 0), (4, .imul, 1, 0, 0), (5, .iadd, 1, 0, 0), (6, .iload_n 1, 1, 0, 0), (7, .iadd, 1, 0, 0), (8, .ireturn, 1, 0, 0)]
/-- SerialGateModel.clientAt(II)I -/
def mm_M201 : mm_M := (yX11_clientAt, cX11_clientAt, 2, (some .int), 11, false, [], [], mm_k201)
theorem mm_d201 : mm_k201.all (fun q => mm_deq (decode cX11_clientAt q.1) q.2.1 q.2.2.1) = true := by decide +kernel
def mm_k202 : List mm_I := [(0, .aload_n 0, 1, 0, 0), (1, .getfield 13, 3, 11, 1), (4, .iload_n 1, 1, 0, 0), (5, .iload_n 2, 1, 0, 0), (6, .invokestatic 63, 3, 0, 201), (9, .iaload, 1, 0, 0), (10, .ireturn, 1, 0, 0)]
/-- SerialGateModel.ofClient(II)I -/
def mm_M202 : mm_M := (yX11_ofClient, cX11_ofClient, 3, (some .int), 11, false, [], [], mm_k202)
theorem mm_d202 : mm_k202.all (fun q => mm_deq (decode cX11_ofClient q.1) q.2.1 q.2.2.1) = true := by decide +kernel
def mm_k203 : List mm_I := [(0, .bipush 74, 2, 0, 0), (2, .bipush 21, 2, 0, 0), (4, .iload_n 0, 1, 0, 0), (5, .imul, 1, 0, 0), (6, .iadd, 1, 0, 0), (7, .iload_n 1, 1, 0, 0), (8, .iadd, 1, 0, 0), (9, .ireturn, 1, 0, 0)]
/-- SerialGateModel.slotAt(II)I -/
def mm_M203 : mm_M := (yX11_slotAt, cX11_slotAt, 2, (some .int), 11, false, [], [], mm_k203)
theorem mm_d203 : mm_k203.all (fun q => mm_deq (decode cX11_slotAt q.1) q.2.1 q.2.2.1) = true := by decide +kernel
def mm_k204 : List mm_I := [(0, .aload_n 0, 1, 0, 0), (1, .getfield 13, 3, 11, 1), (4, .iload_n 1, 1, 0, 0), (5, .iload_n 2, 1, 0, 0), (6, .invokestatic 66, 3, 0, 203), (9, .iaload, 1, 0, 0), (10, .ireturn, 1, 0, 0)]
/-- SerialGateModel.of(II)I -/
def mm_M204 : mm_M := (yX11_of, cX11_of, 3, (some .int), 11, false, [], [], mm_k204)
theorem mm_d204 : mm_k204.all (fun q => mm_deq (decode cX11_of q.1) q.2.1 q.2.2.1) = true := by decide +kernel
def mm_k205 : List mm_I := [(0, .aload_n 0, 1, 0, 0), (1, .iload_n 1, 1, 0, 0), (2, .iconst 0, 1, 0, 0), (3, .invokevirtual 69, 3, 0, 204), (6, .iconst 1, 1, 0, 0), (7, .if_icmp .ne 7, 3, 0, 0), (10, .iconst 1, 1, 0, 0), (11, .goto 4, 3, 0, 0), (14, .iconst 0, 1, 0, 0), (15, .ireturn, 1, 0, 0)]
/-- SerialGateModel.runs(I)Z -/
def mm_M205 : mm_M := (yX11_runs, cX11_runs, 2, (some .boolean), 11, false, [], [], mm_k205)
theorem mm_d205 : mm_k205.all (fun q => mm_deq (decode cX11_runs q.1) q.2.1 q.2.2.1) = true := by decide +kernel
def mm_k206 : List mm_I := [(0, .aload_n 0, 1, 0, 0), (1, .iload_n 1, 1, 0, 0), (2, .iconst 0, 1, 0, 0), (3, .invokevirtual 69, 3, 0, 204), (6, .iconst 2, 1, 0, 0), (7, .if_icmp .ne 7, 3, 0, 0), (10, .iconst 1, 1, 0, 0), (11, .goto 4, 3, 0, 0), (14, .iconst 0, 1, 0, 0), (15, .ireturn, 1, 0, 0)]
/-- SerialGateModel.isDone(I)Z -/
def mm_M206 : mm_M := (yX11_isDone, cX11_isDone, 2, (some .boolean), 11, false, [], [], mm_k206)
theorem mm_d206 : mm_k206.all (fun q => mm_deq (decode cX11_isDone q.1) q.2.1 q.2.2.1) = true := by decide +kernel
def mm_k207 : List mm_I := [(0, .aload_n 0, 1, 0, 0), (1, .aload_n 0, 1, 0, 0), (2, .iload_n 1, 1, 0, 0), (3, .iconst 1, 1, 0, 0), (4, .invokevirtual 69, 3, 0, 204), (7, .iconst 2, 1, 0, 0), (8, .invokevirtual 72, 3, 0, 202), (11, .iconst 1, 1, 0, 0), (12, .if_icmp .ne 7, 3, 0, 0), (15, .iconst 1, 1, 0, 0), (16, .goto 4, 3, 0, 0), (19, .iconst 0, 1, 0, 0), (20, .ireturn, 1, 0, 0)]
/-- SerialGateModel.isOnly(I)Z -/
def mm_M207 : mm_M := (yX11_isOnly, cX11_isOnly, 2, (some .boolean), 11, false, [], [], mm_k207)
theorem mm_d207 : mm_k207.all (fun q => mm_deq (decode cX11_isOnly q.1) q.2.1 q.2.2.1) = true := by decide +kernel
def mm_k208 : List mm_I := [(0, .iconst 0, 1, 0, 0), (1, .istore_n 2, 1, 0, 0), (2, .iconst 0, 1, 0, 0), (3, .istore_n 3, 1, 0, 0), (4, .iload_n 3, 1, 0, 0), (5, .bipush 8, 2, 0, 0), (7, .if_icmp .ge 29, 3, 0, 0), (10, .iload_n 2, 1, 0, 0), (11, .aload_n 0, 1, 0, 0), (12, .iload_n 3, 1, 0, 0), (13, .iconst 0, 1, 0, 0), (14, .invokevirtual 69, 3, 0, 204), (17, .iload_n 1, 1, 0, 0), (18, .if_icmp .ne 9, 3, 0, 0), (21, .iconst 1, 1, 0, 0), (22, .iload_n 3, 1, 0, 0), (23, .ishl, 1, 0, 0), (24, .goto 4, 3, 0, 0), (27, .iconst 0, 1, 0, 0), (28, .ior, 1, 0, 0), (29, .istore_n 2, 1, 0, 0), (30, .iinc 3 1, 3, 0, 0), (33, .goto (-29), 3, 0, 0), (36, .iload_n 2, 1, 0, 0), (37, .ireturn, 1, 0, 0)]
/-- SerialGateModel.allIn(I)I -/
def mm_M208 : mm_M := (yX11_allIn, cX11_allIn, 4, (some .int), 11, false, [], [], mm_k208)
theorem mm_d208 : mm_k208.all (fun q => mm_deq (decode cX11_allIn q.1) q.2.1 q.2.2.1) = true := by decide +kernel
def mm_k209 : List mm_I := [(0, .iconst (-1), 1, 0, 0), (1, .istore_n 2, 1, 0, 0), (2, .iconst 0, 1, 0, 0), (3, .istore_n 3, 1, 0, 0), (4, .iload_n 3, 1, 0, 0), (5, .bipush 8, 2, 0, 0), (7, .if_icmp .ge 33, 3, 0, 0), (10, .aload_n 0, 1, 0, 0), (11, .iload_n 3, 1, 0, 0), (12, .invokevirtual 75, 3, 0, 205), (15, .ifCond .eq 17, 3, 0, 0), (18, .aload_n 0, 1, 0, 0), (19, .iload_n 3, 1, 0, 0), (20, .iconst 1, 1, 0, 0), (21, .invokevirtual 69, 3, 0, 204), (24, .iload_n 1, 1, 0, 0), (25, .if_icmp .ne 7, 3, 0, 0), (28, .iload_n 3, 1, 0, 0), (29, .goto 4, 3, 0, 0), (32, .iload_n 2, 1, 0, 0), (33, .istore_n 2, 1, 0, 0), (34, .iinc 3 1, 3, 0, 0), (37, .goto (-33), 3, 0, 0), (40, .iload_n 2, 1, 0, 0), (41, .ireturn, 1, 0, 0)]
/-- SerialGateModel.slotOf(I)I -/
def mm_M209 : mm_M := (yX11_slotOf, cX11_slotOf, 4, (some .int), 11, false, [], [], mm_k209)
theorem mm_d209 : mm_k209.all (fun q => mm_deq (decode cX11_slotOf q.1) q.2.1 q.2.2.1) = true := by decide +kernel
def mm_k210 : List mm_I := [(0, .iconst (-1), 1, 0, 0), (1, .istore_n 2, 1, 0, 0), (2, .iconst 0, 1, 0, 0), (3, .istore_n 3, 1, 0, 0), (4, .iload_n 3, 1, 0, 0), (5, .bipush 8, 2, 0, 0), (7, .if_icmp .ge 37, 3, 0, 0), (10, .aload_n 0, 1, 0, 0), (11, .iload_n 3, 1, 0, 0), (12, .invokevirtual 75, 3, 0, 205), (15, .ifCond .eq 21, 3, 0, 0), (18, .aload_n 0, 1, 0, 0), (19, .iload_n 3, 1, 0, 0), (20, .bipush 6, 2, 0, 0), (22, .invokevirtual 69, 3, 0, 204), (25, .iload_n 1, 1, 0, 0), (26, .invokestatic 79, 3, 0, 190), (29, .ifCond .eq 7, 3, 0, 0), (32, .iload_n 3, 1, 0, 0), (33, .goto 4, 3, 0, 0), (36, .iload_n 2, 1, 0, 0), (37, .istore_n 2, 1, 0, 0), (38, .iinc 3 1, 3, 0, 0), (41, .goto (-37), 3, 0, 0), (44, .iload_n 2, 1, 0, 0), (45, .ireturn, 1, 0, 0)]
/-- SerialGateModel.writerOf(I)I -/
def mm_M210 : mm_M := (yX11_writerOf, cX11_writerOf, 4, (some .int), 11, false, [], [], mm_k210)
theorem mm_d210 : mm_k210.all (fun q => mm_deq (decode cX11_writerOf q.1) q.2.1 q.2.2.1) = true := by decide +kernel
def mm_k211 : List mm_I := [(0, .iconst 0, 1, 0, 0), (1, .istore_n 2, 1, 0, 0), (2, .iconst 0, 1, 0, 0), (3, .istore_n 3, 1, 0, 0), (4, .iload_n 3, 1, 0, 0), (5, .bipush 8, 2, 0, 0), (7, .if_icmp .ge 33, 3, 0, 0), (10, .iload_n 2, 1, 0, 0), (11, .aload_n 0, 1, 0, 0), (12, .iload_n 3, 1, 0, 0), (13, .bipush 7, 2, 0, 0), (15, .invokevirtual 69, 3, 0, 204), (18, .iload_n 1, 1, 0, 0), (19, .invokestatic 79, 3, 0, 190), (22, .ifCond .eq 9, 3, 0, 0), (25, .iconst 1, 1, 0, 0), (26, .iload_n 3, 1, 0, 0), (27, .ishl, 1, 0, 0), (28, .goto 4, 3, 0, 0), (31, .iconst 0, 1, 0, 0), (32, .ior, 1, 0, 0), (33, .istore_n 2, 1, 0, 0), (34, .iinc 3 1, 3, 0, 0), (37, .goto (-33), 3, 0, 0), (40, .iload_n 2, 1, 0, 0), (41, .ireturn, 1, 0, 0)]
/-- SerialGateModel.inOf(I)I -/
def mm_M211 : mm_M := (yX11_inOf, cX11_inOf, 4, (some .int), 11, false, [], [], mm_k211)
theorem mm_d211 : mm_k211.all (fun q => mm_deq (decode cX11_inOf q.1) q.2.1 q.2.2.1) = true := by decide +kernel
def mm_k212 : List mm_I := [(0, .aload_n 0, 1, 0, 0), (1, .getfield 13, 3, 11, 1), (4, .bipush 8, 2, 0, 0), (6, .ldc 83, 2, 1103515245, 0), (8, .aload_n 0, 1, 0, 0), (9, .getfield 13, 3, 11, 1), (12, .bipush 8, 2, 0, 0), (14, .iaload, 1, 0, 0), (15, .imul, 1, 0, 0), (16, .sipush 12345, 3, 0, 0), (19, .iadd, 1, 0, 0), (20, .iastore, 1, 0, 0), (21, .aload_n 0, 1, 0, 0), (22, .getfield 13, 3, 11, 1), (25, .bipush 8, 2, 0, 0), (27, .iaload, 1, 0, 0), (28, .bipush 16, 2, 0, 0), (30, .ishr, 1, 0, 0), (31, .sipush 32767, 3, 0, 0), (34, .iand, 1, 0, 0), (35, .iload_n 1, 1, 0, 0), (36, .irem, 1, 0, 0), (37, .ireturn, 1, 0, 0)]
/-- SerialGateModel.drawn(I)I -/
def mm_M212 : mm_M := (yX11_drawn, cX11_drawn, 2, (some .int), 11, false, [], [], mm_k212)
theorem mm_d212 : mm_k212.all (fun q => mm_deq (decode cX11_drawn q.1) q.2.1 q.2.2.1) = true := by decide +kernel
def mm_k213 : List mm_I := [(0, .aload_n 0, 1, 0, 0), (1, .iconst 0, 1, 0, 0), (2, .putfield 3, 3, 11, 0), (5, .aload_n 0, 1, 0, 0), (6, .getfield 84, 3, 11, 9), (9, .bipush 20, 2, 0, 0), (11, .iadd, 1, 0, 0), (12, .sipush 400, 3, 0, 0), (15, .if_icmp .le 5, 3, 0, 0), (18, .iconst (-1), 1, 0, 0), (19, .ireturn, 1, 0, 0), (20, .aload_n 0, 1, 0, 0), (21, .getfield 36, 3, 11, 15), (24, .iconst 0, 1, 0, 0), (25, .iload_n 1, 1, 0, 0), (26, .iastore, 1, 0, 0), (27, .aload_n 0, 1, 0, 0), (28, .getfield 36, 3, 11, 15), (31, .iconst 1, 1, 0, 0), (32, .iload_n 2, 1, 0, 0), (33, .iastore, 1, 0, 0), (34, .aload_n 0, 1, 0, 0), (35, .getfield 36, 3, 11, 15), (38, .iconst 2, 1, 0, 0), (39, .iload_n 3, 1, 0, 0), (40, .iastore, 1, 0, 0), (41, .aload_n 0, 1, 0, 0), (42, .getfield 36, 3, 11, 15), (45, .iconst 3, 1, 0, 0), (46, .iload 4, 2, 0, 0), (48, .iastore, 1, 0, 0), (49, .aload_n 0, 1, 0, 0), (50, .getfield 36, 3, 11, 15), (53, .iconst 4, 1, 0, 0), (54, .iload 5, 2, 0, 0), (56, .iastore, 1, 0, 0), (57, .iconst 0, 1, 0, 0), (58, .istore 6, 2, 0, 0), (60, .iload 6, 2, 0, 0), (62, .bipush 20, 2, 0, 0), (64, .if_icmp .ge 42, 3, 0, 0), (67, .aload_n 0, 1, 0, 0), (68, .getfield 29, 3, 11, 8), (71, .aload_n 0, 1, 0, 0), (72, .getfield 84, 3, 11, 9), (75, .iload 6, 2, 0, 0), (77, .iadd, 1, 0, 0), (78, .aload_n 0, 1, 0, 0), (79, .getfield 36, 3, 11, 15), (82, .iload 6, 2, 0, 0), (84, .iconst 4, 1, 0, 0), (85, .idiv, 1, 0, 0), (86, .iaload, 1, 0, 0), (87, .bipush 24, 2, 0, 0), (89, .bipush 8, 2, 0, 0), (91, .iload 6, 2, 0, 0), (93, .iconst 4, 1, 0, 0), (94, .irem, 1, 0, 0), (95, .imul, 1, 0, 0), (96, .isub, 1, 0, 0), (97, .ishr, 1, 0, 0), (98, .i2b, 1, 0, 0), (99, .bastore, 1, 0, 0), (100, .iinc 6 1, 3, 0, 0), (103, .goto (-43), 3, 0, 0), (106, .aload_n 0, 1, 0, 0), (107, .dup, 1, 0, 0), (108, .getfield 84, 3, 11, 9), (111, .bipush 20, 2, 0, 0), (113, .iadd, 1, 0, 0), (114, .putfield 84, 3, 11, 9), (117, .aload_n 0, 1, 0, 0), (118, .getfield 84, 3, 11, 9), (121, .ireturn, 1, 0, 0)]
/-- SerialGateModel.feed(IIIII)I -/
def mm_M213 : mm_M := (yX11_feed, cX11_feed, 7, (some .int), 11, false, [], [], mm_k213)
theorem mm_d213 : mm_k213.all (fun q => mm_deq (decode cX11_feed q.1) q.2.1 q.2.2.1) = true := by decide +kernel
def mm_k214 : List mm_I := [(0, .aload_n 0, 1, 0, 0), (1, .iconst 0, 1, 0, 0), (2, .putfield 3, 3, 11, 0), (5, .iload_n 1, 1, 0, 0), (6, .ifCond .lt 11, 3, 0, 0), (9, .iload_n 1, 1, 0, 0), (10, .aload_n 0, 1, 0, 0), (11, .getfield 84, 3, 11, 9), (14, .if_icmp .le 5, 3, 0, 0), (17, .iconst 0, 1, 0, 0), (18, .ireturn, 1, 0, 0), (19, .aload_n 0, 1, 0, 0), (20, .iload_n 1, 1, 0, 0), (21, .putfield 84, 3, 11, 9), (24, .iconst 1, 1, 0, 0), (25, .ireturn, 1, 0, 0)]
/-- SerialGateModel.end(I)Z -/
def mm_M214 : mm_M := (yX11_end, cX11_end, 2, (some .boolean), 11, false, [], [], mm_k214)
theorem mm_d214 : mm_k214.all (fun q => mm_deq (decode cX11_end q.1) q.2.1 q.2.2.1) = true := by decide +kernel
def mm_k215 : List mm_I := [(0, .aload_n 0, 1, 0, 0), (1, .getfield 87, 3, 11, 10), (4, .aload_n 0, 1, 0, 0), (5, .getfield 90, 3, 11, 11), (8, .if_icmp .ge 33, 3, 0, 0), (11, .aload_n 0, 1, 0, 0), (12, .getfield 29, 3, 11, 8), (15, .aload_n 0, 1, 0, 0), (16, .getfield 87, 3, 11, 10), (19, .baload, 1, 0, 0), (20, .iload_n 1, 1, 0, 0), (21, .if_icmp .lt 20, 3, 0, 0), (24, .aload_n 0, 1, 0, 0), (25, .getfield 29, 3, 11, 8), (28, .aload_n 0, 1, 0, 0), (29, .getfield 87, 3, 11, 10), (32, .baload, 1, 0, 0), (33, .iload_n 2, 1, 0, 0), (34, .if_icmp .gt 7, 3, 0, 0), (37, .iconst 1, 1, 0, 0), (38, .goto 4, 3, 0, 0), (41, .iconst 0, 1, 0, 0), (42, .ireturn, 1, 0, 0)]
/-- SerialGateModel.isAt(II)Z -/
def mm_M215 : mm_M := (yX11_isAt, cX11_isAt, 3, (some .boolean), 11, false, [], [], mm_k215)
theorem mm_d215 : mm_k215.all (fun q => mm_deq (decode cX11_isAt q.1) q.2.1 q.2.2.1) = true := by decide +kernel
def mm_k216 : List mm_I := [(0, .aload_n 0, 1, 0, 0), (1, .bipush 32, 2, 0, 0), (3, .bipush 32, 2, 0, 0), (5, .invokevirtual 93, 3, 0, 215), (8, .ifCond .eq 16, 3, 0, 0), (11, .aload_n 0, 1, 0, 0), (12, .dup, 1, 0, 0), (13, .getfield 87, 3, 11, 10), (16, .iconst 1, 1, 0, 0), (17, .iadd, 1, 0, 0), (18, .putfield 87, 3, 11, 10), (21, .goto (-21), 3, 0, 0), (24, .aload_n 0, 1, 0, 0), (25, .aload_n 0, 1, 0, 0), (26, .getfield 87, 3, 11, 10), (29, .putfield 96, 3, 11, 12), (32, .return_, 1, 0, 0)]
/-- SerialGateModel.blanks()V -/
def mm_M216 : mm_M := (yX11_blanks, cX11_blanks, 1, none, 11, false, [], [], mm_k216)
theorem mm_d216 : mm_k216.all (fun q => mm_deq (decode cX11_blanks q.1) q.2.1 q.2.2.1) = true := by decide +kernel
def mm_k217 : List mm_I := [(0, .aload_n 0, 1, 0, 0), (1, .invokevirtual 99, 3, 0, 216), (4, .aload_n 0, 1, 0, 0), (5, .bipush 97, 2, 0, 0), (7, .bipush 122, 2, 0, 0), (9, .invokevirtual 93, 3, 0, 215), (12, .ifCond .eq 16, 3, 0, 0), (15, .aload_n 0, 1, 0, 0), (16, .dup, 1, 0, 0), (17, .getfield 87, 3, 11, 10), (20, .iconst 1, 1, 0, 0), (21, .iadd, 1, 0, 0), (22, .putfield 87, 3, 11, 10), (25, .goto (-21), 3, 0, 0), (28, .return_, 1, 0, 0)]
/-- SerialGateModel.letters()V -/
def mm_M217 : mm_M := (yX11_letters, cX11_letters, 1, none, 11, false, [], [], mm_k217)
theorem mm_d217 : mm_k217.all (fun q => mm_deq (decode cX11_letters q.1) q.2.1 q.2.2.1) = true := by decide +kernel
def mm_k218 : List mm_I := [(0, .aload_n 0, 1, 0, 0), (1, .getfield 87, 3, 11, 10), (4, .aload_n 0, 1, 0, 0), (5, .getfield 96, 3, 11, 12), (8, .isub, 1, 0, 0), (9, .aload_n 1, 1, 0, 0), (10, .invokevirtual 102, 3, 1, 0), (13, .if_icmp .ne 7, 3, 0, 0), (16, .iconst 1, 1, 0, 0), (17, .goto 4, 3, 0, 0), (20, .iconst 0, 1, 0, 0), (21, .istore_n 2, 1, 0, 0), (22, .iconst 0, 1, 0, 0), (23, .istore_n 3, 1, 0, 0), (24, .iload_n 2, 1, 0, 0), (25, .ifCond .eq 42, 3, 0, 0), (28, .iload_n 3, 1, 0, 0), (29, .aload_n 1, 1, 0, 0), (30, .invokevirtual 102, 3, 1, 0), (33, .if_icmp .ge 34, 3, 0, 0), (36, .aload_n 0, 1, 0, 0), (37, .getfield 29, 3, 11, 8), (40, .aload_n 0, 1, 0, 0), (41, .getfield 96, 3, 11, 12), (44, .iload_n 3, 1, 0, 0), (45, .iadd, 1, 0, 0), (46, .baload, 1, 0, 0), (47, .aload_n 1, 1, 0, 0), (48, .iload_n 3, 1, 0, 0), (49, .invokevirtual 108, 3, 2, 0), (52, .if_icmp .ne 7, 3, 0, 0), (55, .iconst 1, 1, 0, 0), (56, .goto 4, 3, 0, 0), (59, .iconst 0, 1, 0, 0), (60, .istore_n 2, 1, 0, 0), (61, .iinc 3 1, 3, 0, 0), (64, .goto (-40), 3, 0, 0), (67, .iload_n 2, 1, 0, 0), (68, .ireturn, 1, 0, 0)]
/-- SerialGateModel.isWord(Ljava/lang/String;)Z -/
def mm_M218 : mm_M := (yX11_isWord, cX11_isWord, 4, (some .boolean), 11, false, [], [], mm_k218)
theorem mm_d218 : mm_k218.all (fun q => mm_deq (decode cX11_isWord q.1) q.2.1 q.2.2.1) = true := by decide +kernel
def mm_k219 : List mm_I := [(0, .aload_n 0, 1, 0, 0), (1, .invokevirtual 112, 3, 0, 217), (4, .aload_n 0, 1, 0, 0), (5, .aload_n 1, 1, 0, 0), (6, .invokevirtual 115, 3, 0, 218), (9, .ifCond .eq 5, 3, 0, 0), (12, .iconst 1, 1, 0, 0), (13, .ireturn, 1, 0, 0), (14, .aload_n 0, 1, 0, 0), (15, .aload_n 0, 1, 0, 0), (16, .getfield 96, 3, 11, 12), (19, .putfield 87, 3, 11, 10), (22, .iconst 0, 1, 0, 0), (23, .ireturn, 1, 0, 0)]
/-- SerialGateModel.passes(Ljava/lang/String;)Z -/
def mm_M219 : mm_M := (yX11_passes, cX11_passes, 2, (some .boolean), 11, false, [], [], mm_k219)
theorem mm_d219 : mm_k219.all (fun q => mm_deq (decode cX11_passes q.1) q.2.1 q.2.2.1) = true := by decide +kernel
def mm_k220 : List mm_I := [(0, .aload_n 0, 1, 0, 0), (1, .invokevirtual 99, 3, 0, 216), (4, .aload_n 0, 1, 0, 0), (5, .iload_n 1, 1, 0, 0), (6, .iload_n 1, 1, 0, 0), (7, .invokevirtual 93, 3, 0, 215), (10, .ifCond .ne 5, 3, 0, 0), (13, .iconst 0, 1, 0, 0), (14, .ireturn, 1, 0, 0), (15, .aload_n 0, 1, 0, 0), (16, .dup, 1, 0, 0), (17, .getfield 87, 3, 11, 10), (20, .iconst 1, 1, 0, 0), (21, .iadd, 1, 0, 0), (22, .putfield 87, 3, 11, 10), (25, .iconst 1, 1, 0, 0), (26, .ireturn, 1, 0, 0)]
/-- SerialGateModel.sign(I)Z -/
def mm_M220 : mm_M := (yX11_sign, cX11_sign, 2, (some .boolean), 11, false, [], [], mm_k220)
theorem mm_d220 : mm_k220.all (fun q => mm_deq (decode cX11_sign q.1) q.2.1 q.2.2.1) = true := by decide +kernel
def mm_k221 : List mm_I := [(0, .aload_n 0, 1, 0, 0), (1, .invokevirtual 99, 3, 0, 216), (4, .iconst 0, 1, 0, 0), (5, .istore_n 3, 1, 0, 0), (6, .aload_n 0, 1, 0, 0), (7, .bipush 48, 2, 0, 0), (9, .bipush 57, 2, 0, 0), (11, .invokevirtual 93, 3, 0, 215), (14, .ifCond .eq 51, 3, 0, 0), (17, .aload_n 0, 1, 0, 0), (18, .getfield 87, 3, 11, 10), (21, .aload_n 0, 1, 0, 0), (22, .getfield 96, 3, 11, 12), (25, .isub, 1, 0, 0), (26, .iconst 3, 1, 0, 0), (27, .if_icmp .ge 23, 3, 0, 0), (30, .bipush 10, 2, 0, 0), (32, .iload_n 3, 1, 0, 0), (33, .imul, 1, 0, 0), (34, .aload_n 0, 1, 0, 0), (35, .getfield 29, 3, 11, 8), (38, .aload_n 0, 1, 0, 0), (39, .getfield 87, 3, 11, 10), (42, .baload, 1, 0, 0), (43, .iadd, 1, 0, 0), (44, .bipush 48, 2, 0, 0), (46, .isub, 1, 0, 0), (47, .goto 4, 3, 0, 0), (50, .iload_n 3, 1, 0, 0), (51, .istore_n 3, 1, 0, 0), (52, .aload_n 0, 1, 0, 0), (53, .dup, 1, 0, 0), (54, .getfield 87, 3, 11, 10), (57, .iconst 1, 1, 0, 0), (58, .iadd, 1, 0, 0), (59, .putfield 87, 3, 11, 10), (62, .goto (-56), 3, 0, 0), (65, .aload_n 0, 1, 0, 0), (66, .getfield 87, 3, 11, 10), (69, .aload_n 0, 1, 0, 0), (70, .getfield 96, 3, 11, 12), (73, .if_icmp .eq 26, 3, 0, 0), (76, .aload_n 0, 1, 0, 0), (77, .getfield 87, 3, 11, 10), (80, .aload_n 0, 1, 0, 0), (81, .getfield 96, 3, 11, 12), (84, .isub, 1, 0, 0), (85, .iconst 3, 1, 0, 0), (86, .if_icmp .gt 13, 3, 0, 0), (89, .iload_n 3, 1, 0, 0), (90, .iload_n 1, 1, 0, 0), (91, .if_icmp .lt 8, 3, 0, 0), (94, .iload_n 3, 1, 0, 0), (95, .iload_n 2, 1, 0, 0), (96, .if_icmp .le 7, 3, 0, 0), (99, .iconst (-1), 1, 0, 0), (100, .goto 4, 3, 0, 0), (103, .iload_n 3, 1, 0, 0), (104, .ireturn, 1, 0, 0)]
/-- SerialGateModel.number(II)I -/
def mm_M221 : mm_M := (yX11_number, cX11_number, 4, (some .int), 11, false, [], [], mm_k221)
theorem mm_d221 : mm_k221.all (fun q => mm_deq (decode cX11_number q.1) q.2.1 q.2.2.1) = true := by decide +kernel
def mm_k222 : List mm_I := [(0, .aload_n 0, 1, 0, 0), (1, .invokevirtual 99, 3, 0, 216), (4, .aload_n 0, 1, 0, 0), (5, .bipush 48, 2, 0, 0), (7, .bipush 57, 2, 0, 0), (9, .invokevirtual 93, 3, 0, 215), (12, .ireturn, 1, 0, 0)]
/-- SerialGateModel.isNumberNext()Z -/
def mm_M222 : mm_M := (yX11_isNumberNext, cX11_isNumberNext, 1, (some .boolean), 11, false, [], [], mm_k222)
theorem mm_d222 : mm_k222.all (fun q => mm_deq (decode cX11_isNumberNext q.1) q.2.1 q.2.2.1) = true := by decide +kernel
def mm_k223 : List mm_I := [(0, .aload_n 0, 1, 0, 0), (1, .iconst 0, 1, 0, 0), (2, .putfield 3, 3, 11, 0), (5, .aload_n 0, 1, 0, 0), (6, .getfield 33, 3, 11, 14), (9, .ireturn, 1, 0, 0)]
/-- SerialGateModel.fault()I -/
def mm_M223 : mm_M := (yX11_fault, cX11_fault, 1, (some .int), 11, false, [], [], mm_k223)
theorem mm_d223 : mm_k223.all (fun q => mm_deq (decode cX11_fault q.1) q.2.1 q.2.2.1) = true := by decide +kernel
def mm_k224 : List mm_I := [(0, .aload_n 0, 1, 0, 0), (1, .iconst 0, 1, 0, 0), (2, .putfield 3, 3, 11, 0), (5, .aload_n 0, 1, 0, 0), (6, .aload_n 0, 1, 0, 0), (7, .getfield 84, 3, 11, 9), (10, .putfield 90, 3, 11, 11), (13, .aload_n 0, 1, 0, 0), (14, .iconst 0, 1, 0, 0), (15, .putfield 84, 3, 11, 9), (18, .aload_n 0, 1, 0, 0), (19, .iconst 0, 1, 0, 0), (20, .putfield 87, 3, 11, 10), (23, .return_, 1, 0, 0)]
/-- SerialGateModel.uses()V -/
def mm_M224 : mm_M := (yX11_uses, cX11_uses, 1, none, 11, false, [], [], mm_k224)
theorem mm_d224 : mm_k224.all (fun q => mm_deq (decode cX11_uses q.1) q.2.1 q.2.2.1) = true := by decide +kernel
def mm_k225 : List mm_I := [(0, .aload_n 0, 1, 0, 0), (1, .iload_n 2, 1, 0, 0), (2, .iload_n 3, 1, 0, 0), (3, .invokevirtual 119, 3, 0, 221), (6, .istore 4, 2, 0, 0), (8, .aload_n 0, 1, 0, 0), (9, .getfield 13, 3, 11, 1), (12, .iload_n 1, 1, 0, 0), (13, .iload 4, 2, 0, 0), (15, .ifCond .ge 12, 3, 0, 0), (18, .aload_n 0, 1, 0, 0), (19, .getfield 13, 3, 11, 1), (22, .iload_n 1, 1, 0, 0), (23, .iaload, 1, 0, 0), (24, .goto 5, 3, 0, 0), (27, .iload 4, 2, 0, 0), (29, .iastore, 1, 0, 0), (30, .iload 4, 2, 0, 0), (32, .ifCond .lt 7, 3, 0, 0), (35, .iconst 1, 1, 0, 0), (36, .goto 4, 3, 0, 0), (39, .iconst 0, 1, 0, 0), (40, .ireturn, 1, 0, 0)]
/-- SerialGateModel.readNumber(III)Z -/
def mm_M225 : mm_M := (yX11_readNumber, cX11_readNumber, 5, (some .boolean), 11, false, [], [], mm_k225)
theorem mm_d225 : mm_k225.all (fun q => mm_deq (decode cX11_readNumber q.1) q.2.1 q.2.2.1) = true := by decide +kernel
def mm_k226 : List mm_I := [(0, .aload_n 0, 1, 0, 0), (1, .aload_n 1, 1, 0, 0), (2, .invokevirtual 122, 3, 0, 219), (5, .ifCond .ne 5, 3, 0, 0), (8, .iconst 0, 1, 0, 0), (9, .ireturn, 1, 0, 0), (10, .iconst 0, 1, 0, 0), (11, .istore_n 2, 1, 0, 0), (12, .iconst 0, 1, 0, 0), (13, .istore_n 3, 1, 0, 0), (14, .iconst 1, 1, 0, 0), (15, .istore 4, 2, 0, 0), (17, .iconst 1, 1, 0, 0), (18, .istore 5, 2, 0, 0), (20, .iload 5, 2, 0, 0), (22, .ifCond .eq 71, 3, 0, 0), (25, .aload_n 0, 1, 0, 0), (26, .iconst 0, 1, 0, 0), (27, .bipush 9, 2, 0, 0), (29, .invokevirtual 119, 3, 0, 221), (32, .istore 6, 2, 0, 0), (34, .iload 6, 2, 0, 0), (36, .ifCond .lt 13, 3, 0, 0), (39, .iload_n 3, 1, 0, 0), (40, .bipush 10, 2, 0, 0), (42, .if_icmp .ge 7, 3, 0, 0), (45, .iconst 1, 1, 0, 0), (46, .goto 4, 3, 0, 0), (49, .iconst 0, 1, 0, 0), (50, .istore 4, 2, 0, 0), (52, .iload_n 2, 1, 0, 0), (53, .iload 4, 2, 0, 0), (55, .ifCond .eq 10, 3, 0, 0), (58, .iconst 1, 1, 0, 0), (59, .iload 6, 2, 0, 0), (61, .ishl, 1, 0, 0), (62, .goto 4, 3, 0, 0), (65, .iconst 0, 1, 0, 0), (66, .ior, 1, 0, 0), (67, .istore_n 2, 1, 0, 0), (68, .iinc 3 1, 3, 0, 0), (71, .iload 4, 2, 0, 0), (73, .ifCond .eq 14, 3, 0, 0), (76, .aload_n 0, 1, 0, 0), (77, .invokevirtual 125, 3, 0, 222), (80, .ifCond .eq 7, 3, 0, 0), (83, .iconst 1, 1, 0, 0), (84, .goto 4, 3, 0, 0), (87, .iconst 0, 1, 0, 0), (88, .istore 5, 2, 0, 0), (90, .goto (-70), 3, 0, 0), (93, .iload 4, 2, 0, 0), (95, .ifCond .eq 7, 3, 0, 0), (98, .iload_n 2, 1, 0, 0), (99, .goto 4, 3, 0, 0), (102, .iconst (-1), 1, 0, 0), (103, .ireturn, 1, 0, 0)]
/-- SerialGateModel.keysTold(Ljava/lang/String;)I -/
def mm_M226 : mm_M := (yX11_keysTold, cX11_keysTold, 7, (some .int), 11, false, [], [], mm_k226)
theorem mm_d226 : mm_k226.all (fun q => mm_deq (decode cX11_keysTold q.1) q.2.1 q.2.2.1) = true := by decide +kernel
def mm_k227 : List mm_I := [(0, .aload_n 0, 1, 0, 0), (1, .invokevirtual 129, 3, 0, 198), (4, .istore_n 1, 1, 0, 0), (5, .iload_n 1, 1, 0, 0), (6, .iconst 5, 1, 0, 0), (7, .if_icmp .ne 5, 3, 0, 0), (10, .iconst 0, 1, 0, 0), (11, .ireturn, 1, 0, 0), (12, .aload_n 0, 1, 0, 0), (13, .ldc 132, 2, 0, 2), (15, .invokevirtual 134, 3, 0, 226), (18, .istore_n 2, 1, 0, 0), (19, .iload_n 2, 1, 0, 0), (20, .ifCond .ge 7, 3, 0, 0), (23, .iconst (-1), 1, 0, 0), (24, .goto 9, 3, 0, 0), (27, .aload_n 0, 1, 0, 0), (28, .ldc 138, 2, 0, 3), (30, .invokevirtual 134, 3, 0, 226), (33, .istore_n 3, 1, 0, 0), (34, .iload_n 3, 1, 0, 0), (35, .ifCond .ge 5, 3, 0, 0), (38, .iconst 0, 1, 0, 0), (39, .ireturn, 1, 0, 0), (40, .aload_n 0, 1, 0, 0), (41, .ldc 140, 2, 0, 4), (43, .invokevirtual 122, 3, 0, 219), (46, .istore 4, 2, 0, 0), (48, .iload 4, 2, 0, 0), (50, .ifCond .eq 21, 3, 0, 0), (53, .iload_n 3, 1, 0, 0), (54, .ifCond .eq 17, 3, 0, 0), (57, .aload_n 0, 1, 0, 0), (58, .aload_n 0, 1, 0, 0), (59, .getfield 96, 3, 11, 12), (62, .putfield 87, 3, 11, 10), (65, .aload_n 0, 1, 0, 0), (66, .invokevirtual 112, 3, 0, 217), (69, .iconst 0, 1, 0, 0), (70, .ireturn, 1, 0, 0), (71, .aload_n 0, 1, 0, 0), (72, .getfield 13, 3, 11, 1), (75, .iload_n 1, 1, 0, 0), (76, .iconst 0, 1, 0, 0), (77, .invokestatic 63, 3, 0, 201), (80, .iload_n 2, 1, 0, 0), (81, .iastore, 1, 0, 0), (82, .aload_n 0, 1, 0, 0), (83, .getfield 13, 3, 11, 1), (86, .iload_n 1, 1, 0, 0), (87, .iconst 1, 1, 0, 0), (88, .invokestatic 63, 3, 0, 201), (91, .iload_n 3, 1, 0, 0), (92, .iastore, 1, 0, 0), (93, .aload_n 0, 1, 0, 0), (94, .getfield 13, 3, 11, 1), (97, .iload_n 1, 1, 0, 0), (98, .iconst 2, 1, 0, 0), (99, .invokestatic 63, 3, 0, 201), (102, .iload 4, 2, 0, 0), (104, .ifCond .eq 7, 3, 0, 0), (107, .iconst 1, 1, 0, 0), (108, .goto 4, 3, 0, 0), (111, .iconst 0, 1, 0, 0), (112, .iastore, 1, 0, 0), (113, .aload_n 0, 1, 0, 0), (114, .getfield 13, 3, 11, 1), (117, .iload_n 1, 1, 0, 0), (118, .iconst 3, 1, 0, 0), (119, .invokestatic 63, 3, 0, 201), (122, .iconst 0, 1, 0, 0), (123, .iastore, 1, 0, 0), (124, .aload_n 0, 1, 0, 0), (125, .getfield 13, 3, 11, 1), (128, .iload_n 1, 1, 0, 0), (129, .iconst 4, 1, 0, 0), (130, .invokestatic 63, 3, 0, 201), (133, .iconst 0, 1, 0, 0), (134, .iastore, 1, 0, 0), (135, .aload_n 0, 1, 0, 0), (136, .getfield 13, 3, 11, 1), (139, .iconst 0, 1, 0, 0), (140, .dup2, 1, 0, 0), (141, .iaload, 1, 0, 0), (142, .iconst 1, 1, 0, 0), (143, .iadd, 1, 0, 0), (144, .iastore, 1, 0, 0), (145, .iconst 1, 1, 0, 0), (146, .ireturn, 1, 0, 0)]
/-- SerialGateModel.readClient()Z -/
def mm_M227 : mm_M := (yX11_readClient, cX11_readClient, 5, (some .boolean), 11, false, [], [], mm_k227)
theorem mm_d227 : mm_k227.all (fun q => mm_deq (decode cX11_readClient q.1) q.2.1 q.2.2.1) = true := by decide +kernel
def mm_k228 : List mm_I := [(0, .aload_n 0, 1, 0, 0), (1, .iconst 0, 1, 0, 0), (2, .bipush 9, 2, 0, 0), (4, .invokevirtual 119, 3, 0, 221), (7, .istore_n 1, 1, 0, 0), (8, .iload_n 1, 1, 0, 0), (9, .ifCond .lt 12, 3, 0, 0), (12, .aload_n 0, 1, 0, 0), (13, .iload_n 1, 1, 0, 0), (14, .invokevirtual 142, 3, 0, 210), (17, .iconst (-1), 1, 0, 0), (18, .if_icmp .eq 5, 3, 0, 0), (21, .iconst 0, 1, 0, 0), (22, .ireturn, 1, 0, 0), (23, .aload_n 0, 1, 0, 0), (24, .iconst 0, 1, 0, 0), (25, .sipush 999, 3, 0, 0), (28, .invokevirtual 119, 3, 0, 221), (31, .istore_n 2, 1, 0, 0), (32, .iload_n 2, 1, 0, 0), (33, .ifCond .ge 5, 3, 0, 0), (36, .iconst 0, 1, 0, 0), (37, .ireturn, 1, 0, 0), (38, .aload_n 0, 1, 0, 0), (39, .getfield 13, 3, 11, 1), (42, .iload_n 1, 1, 0, 0), (43, .iconst 0, 1, 0, 0), (44, .invokestatic 59, 3, 0, 199), (47, .sipush 9999, 3, 0, 0), (50, .aload_n 0, 1, 0, 0), (51, .iload_n 1, 1, 0, 0), (52, .iconst 0, 1, 0, 0), (53, .invokevirtual 146, 3, 0, 200), (56, .iload_n 2, 1, 0, 0), (57, .iadd, 1, 0, 0), (58, .invokestatic 149, 3, 0, 345), (61, .iastore, 1, 0, 0), (62, .iconst 1, 1, 0, 0), (63, .ireturn, 1, 0, 0)]
/-- SerialGateModel.readVersion()Z -/
def mm_M228 : mm_M := (yX11_readVersion, cX11_readVersion, 3, (some .boolean), 11, false, [], [], mm_k228)
theorem mm_d228 : mm_k228.all (fun q => mm_deq (decode cX11_readVersion q.1) q.2.1 q.2.2.1) = true := by decide +kernel
def mm_k229 : List mm_I := [(0, .aload_n 0, 1, 0, 0), (1, .ldc 154, 2, 0, 1), (3, .invokevirtual 115, 3, 0, 218), (6, .ifCond .eq 8, 3, 0, 0), (9, .aload_n 0, 1, 0, 0), (10, .invokevirtual 156, 3, 0, 227), (13, .ireturn, 1, 0, 0), (14, .aload_n 0, 1, 0, 0), (15, .ldc 159, 2, 0, 5), (17, .invokevirtual 115, 3, 0, 218), (20, .ifCond .eq 8, 3, 0, 0), (23, .aload_n 0, 1, 0, 0), (24, .invokevirtual 161, 3, 0, 228), (27, .ireturn, 1, 0, 0), (28, .aload_n 0, 1, 0, 0), (29, .ldc 164, 2, 0, 6), (31, .invokevirtual 115, 3, 0, 218), (34, .ifCond .eq 12, 3, 0, 0), (37, .aload_n 0, 1, 0, 0), (38, .iconst 4, 1, 0, 0), (39, .iconst 0, 1, 0, 0), (40, .bipush 6, 2, 0, 0), (42, .invokevirtual 166, 3, 0, 225), (45, .ireturn, 1, 0, 0), (46, .aload_n 0, 1, 0, 0), (47, .ldc 170, 2, 0, 7), (49, .invokevirtual 115, 3, 0, 218), (52, .ifCond .eq 19, 3, 0, 0), (55, .aload_n 0, 1, 0, 0), (56, .iconst 5, 1, 0, 0), (57, .iconst 0, 1, 0, 0), (58, .sipush 999, 3, 0, 0), (61, .invokevirtual 166, 3, 0, 225), (64, .ifCond .eq 7, 3, 0, 0), (67, .iconst 1, 1, 0, 0), (68, .goto 4, 3, 0, 0), (71, .iconst 0, 1, 0, 0), (72, .ireturn, 1, 0, 0)]
/-- SerialGateModel.readStoreLine()Z -/
def mm_M229 : mm_M := (yX11_readStoreLine, cX11_readStoreLine, 1, (some .boolean), 11, false, [], [], mm_k229)
theorem mm_d229 : mm_k229.all (fun q => mm_deq (decode cX11_readStoreLine q.1) q.2.1 q.2.2.1) = true := by decide +kernel
def mm_k230 : List mm_I := [(0, .aload_n 0, 1, 0, 0), (1, .getfield 13, 3, 11, 1), (4, .sipush 1668, 3, 0, 0), (7, .iconst 2, 1, 0, 0), (8, .aload_n 0, 1, 0, 0), (9, .getfield 172, 3, 11, 16), (12, .imul, 1, 0, 0), (13, .iadd, 1, 0, 0), (14, .iload_n 1, 1, 0, 0), (15, .iastore, 1, 0, 0), (16, .aload_n 0, 1, 0, 0), (17, .getfield 13, 3, 11, 1), (20, .sipush 1668, 3, 0, 0), (23, .iconst 2, 1, 0, 0), (24, .aload_n 0, 1, 0, 0), (25, .getfield 172, 3, 11, 16), (28, .imul, 1, 0, 0), (29, .iadd, 1, 0, 0), (30, .iconst 1, 1, 0, 0), (31, .iadd, 1, 0, 0), (32, .iload_n 2, 1, 0, 0), (33, .iastore, 1, 0, 0), (34, .aload_n 0, 1, 0, 0), (35, .dup, 1, 0, 0), (36, .getfield 172, 3, 11, 16), (39, .iconst 1, 1, 0, 0), (40, .iadd, 1, 0, 0), (41, .putfield 172, 3, 11, 16), (44, .return_, 1, 0, 0)]
/-- SerialGateModel.emits(II)V -/
def mm_M230 : mm_M := (yX11_emits, cX11_emits, 3, none, 11, false, [], [], mm_k230)
theorem mm_d230 : mm_k230.all (fun q => mm_deq (decode cX11_emits q.1) q.2.1 q.2.2.1) = true := by decide +kernel
def mm_k231 : List mm_I := [(0, .aload_n 0, 1, 0, 0), (1, .ldc 175, 2, 0, 17), (3, .invokevirtual 115, 3, 0, 218), (6, .ifCond .eq 5, 3, 0, 0), (9, .iconst 0, 1, 0, 0), (10, .ireturn, 1, 0, 0), (11, .aload_n 0, 1, 0, 0), (12, .ldc 154, 2, 0, 1), (14, .invokevirtual 115, 3, 0, 218), (17, .ifCond .eq 5, 3, 0, 0), (20, .iconst 1, 1, 0, 0), (21, .ireturn, 1, 0, 0), (22, .aload_n 0, 1, 0, 0), (23, .ldc 177, 2, 0, 18), (25, .invokevirtual 115, 3, 0, 218), (28, .ifCond .eq 5, 3, 0, 0), (31, .iconst 2, 1, 0, 0), (32, .ireturn, 1, 0, 0), (33, .aload_n 0, 1, 0, 0), (34, .ldc 132, 2, 0, 2), (36, .invokevirtual 115, 3, 0, 218), (39, .ifCond .eq 5, 3, 0, 0), (42, .iconst 3, 1, 0, 0), (43, .ireturn, 1, 0, 0), (44, .aload_n 0, 1, 0, 0), (45, .ldc 138, 2, 0, 3), (47, .invokevirtual 115, 3, 0, 218), (50, .ifCond .eq 5, 3, 0, 0), (53, .iconst 4, 1, 0, 0), (54, .ireturn, 1, 0, 0), (55, .aload_n 0, 1, 0, 0), (56, .ldc 179, 2, 0, 19), (58, .invokevirtual 115, 3, 0, 218), (61, .ifCond .eq 5, 3, 0, 0), (64, .iconst 5, 1, 0, 0), (65, .ireturn, 1, 0, 0), (66, .aload_n 0, 1, 0, 0), (67, .ldc 181, 2, 0, 20), (69, .invokevirtual 115, 3, 0, 218), (72, .ifCond .eq 8, 3, 0, 0), (75, .bipush 6, 2, 0, 0), (77, .goto 4, 3, 0, 0), (80, .iconst (-1), 1, 0, 0), (81, .ireturn, 1, 0, 0)]
/-- SerialGateModel.wordOfPart()I -/
def mm_M231 : mm_M := (yX11_wordOfPart, cX11_wordOfPart, 1, (some .int), 11, false, [], [], mm_k231)
theorem mm_d231 : mm_k231.all (fun q => mm_deq (decode cX11_wordOfPart q.1) q.2.1 q.2.2.1) = true := by decide +kernel
def mm_k232 : List mm_I := [(0, .aload_n 0, 1, 0, 0), (1, .invokevirtual 112, 3, 0, 217), (4, .aload_n 0, 1, 0, 0), (5, .getfield 87, 3, 11, 10), (8, .aload_n 0, 1, 0, 0), (9, .getfield 96, 3, 11, 12), (12, .if_icmp .ne 7, 3, 0, 0), (15, .iconst 1, 1, 0, 0), (16, .goto 4, 3, 0, 0), (19, .iconst 0, 1, 0, 0), (20, .istore_n 1, 1, 0, 0), (21, .iload_n 1, 1, 0, 0), (22, .ifCond .eq 14, 3, 0, 0), (25, .aload_n 0, 1, 0, 0), (26, .iconst 0, 1, 0, 0), (27, .sipush 999, 3, 0, 0), (30, .invokevirtual 119, 3, 0, 221), (33, .goto 7, 3, 0, 0), (36, .aload_n 0, 1, 0, 0), (37, .invokevirtual 183, 3, 0, 231), (40, .istore_n 2, 1, 0, 0), (41, .aload_n 0, 1, 0, 0), (42, .iload_n 1, 1, 0, 0), (43, .ifCond .eq 8, 3, 0, 0), (46, .bipush 10, 2, 0, 0), (48, .goto 4, 3, 0, 0), (51, .iload_n 2, 1, 0, 0), (52, .iload_n 1, 1, 0, 0), (53, .ifCond .eq 7, 3, 0, 0), (56, .iload_n 2, 1, 0, 0), (57, .goto 4, 3, 0, 0), (60, .iconst 0, 1, 0, 0), (61, .invokevirtual 186, 3, 0, 230), (64, .iload_n 2, 1, 0, 0), (65, .ifCond .lt 7, 3, 0, 0), (68, .iconst 1, 1, 0, 0), (69, .goto 4, 3, 0, 0), (72, .iconst 0, 1, 0, 0), (73, .ireturn, 1, 0, 0)]
/-- SerialGateModel.readPart()Z -/
def mm_M232 : mm_M := (yX11_readPart, cX11_readPart, 3, (some .boolean), 11, false, [], [], mm_k232)
theorem mm_d232 : mm_k232.all (fun q => mm_deq (decode cX11_readPart q.1) q.2.1 q.2.2.1) = true := by decide +kernel
def mm_k233 : List mm_I := [(0, .aload_n 0, 1, 0, 0), (1, .invokevirtual 190, 3, 0, 232), (4, .ifCond .ne 5, 3, 0, 0), (7, .iconst 0, 1, 0, 0), (8, .ireturn, 1, 0, 0), (9, .aload_n 0, 1, 0, 0), (10, .bipush 43, 2, 0, 0), (12, .invokevirtual 193, 3, 0, 220), (15, .ifCond .eq 22, 3, 0, 0), (18, .aload_n 0, 1, 0, 0), (19, .invokevirtual 190, 3, 0, 232), (22, .ifCond .ne 5, 3, 0, 0), (25, .iconst 0, 1, 0, 0), (26, .ireturn, 1, 0, 0), (27, .aload_n 0, 1, 0, 0), (28, .bipush 11, 2, 0, 0), (30, .iconst 0, 1, 0, 0), (31, .invokevirtual 186, 3, 0, 230), (34, .goto (-25), 3, 0, 0), (37, .iconst 1, 1, 0, 0), (38, .ireturn, 1, 0, 0)]
/-- SerialGateModel.readSum()Z -/
def mm_M233 : mm_M := (yX11_readSum, cX11_readSum, 1, (some .boolean), 11, false, [], [], mm_k233)
theorem mm_d233 : mm_k233.all (fun q => mm_deq (decode cX11_readSum q.1) q.2.1 q.2.2.1) = true := by decide +kernel
def mm_k234 : List mm_I := [(0, .aload_n 0, 1, 0, 0), (1, .invokevirtual 112, 3, 0, 217), (4, .aload_n 0, 1, 0, 0), (5, .ldc 140, 2, 0, 4), (7, .invokevirtual 115, 3, 0, 218), (10, .ifCond .eq 8, 3, 0, 0), (13, .bipush 7, 2, 0, 0), (15, .goto 32, 3, 0, 0), (18, .aload_n 0, 1, 0, 0), (19, .ldc 196, 2, 0, 15), (21, .invokevirtual 115, 3, 0, 218), (24, .ifCond .eq 8, 3, 0, 0), (27, .bipush 8, 2, 0, 0), (29, .goto 18, 3, 0, 0), (32, .aload_n 0, 1, 0, 0), (33, .ldc 198, 2, 0, 16), (35, .invokevirtual 115, 3, 0, 218), (38, .ifCond .eq 8, 3, 0, 0), (41, .bipush 9, 2, 0, 0), (43, .goto 4, 3, 0, 0), (46, .iconst (-1), 1, 0, 0), (47, .istore_n 1, 1, 0, 0), (48, .iload_n 1, 1, 0, 0), (49, .ifCond .lt 12, 3, 0, 0), (52, .aload_n 0, 1, 0, 0), (53, .iload_n 1, 1, 0, 0), (54, .iconst 0, 1, 0, 0), (55, .invokevirtual 186, 3, 0, 230), (58, .goto 11, 3, 0, 0), (61, .aload_n 0, 1, 0, 0), (62, .aload_n 0, 1, 0, 0), (63, .getfield 96, 3, 11, 12), (66, .putfield 87, 3, 11, 10), (69, .iload_n 1, 1, 0, 0), (70, .ifCond .lt 7, 3, 0, 0), (73, .iconst 1, 1, 0, 0), (74, .goto 4, 3, 0, 0), (77, .iconst 0, 1, 0, 0), (78, .ireturn, 1, 0, 0)]
/-- SerialGateModel.readTag()Z -/
def mm_M234 : mm_M := (yX11_readTag, cX11_readTag, 2, (some .boolean), 11, false, [], [], mm_k234)
theorem mm_d234 : mm_k234.all (fun q => mm_deq (decode cX11_readTag q.1) q.2.1 q.2.2.1) = true := by decide +kernel
def mm_k235 : List mm_I := [(0, .aload_n 0, 1, 0, 0), (1, .bipush 40, 2, 0, 0), (3, .invokevirtual 193, 3, 0, 220), (6, .ifCond .eq 50, 3, 0, 0), (9, .aload_n 0, 1, 0, 0), (10, .getfield 200, 3, 11, 13), (13, .bipush 6, 2, 0, 0), (15, .if_icmp .ne 5, 3, 0, 0), (18, .iconst 0, 1, 0, 0), (19, .ireturn, 1, 0, 0), (20, .aload_n 0, 1, 0, 0), (21, .dup, 1, 0, 0), (22, .getfield 200, 3, 11, 13), (25, .iconst 1, 1, 0, 0), (26, .iadd, 1, 0, 0), (27, .putfield 200, 3, 11, 13), (30, .aload_n 0, 1, 0, 0), (31, .invokevirtual 203, 3, 0, 237), (34, .ifCond .ne 5, 3, 0, 0), (37, .iconst 0, 1, 0, 0), (38, .ireturn, 1, 0, 0), (39, .aload_n 0, 1, 0, 0), (40, .dup, 1, 0, 0), (41, .getfield 200, 3, 11, 13), (44, .iconst 1, 1, 0, 0), (45, .isub, 1, 0, 0), (46, .putfield 200, 3, 11, 13), (49, .aload_n 0, 1, 0, 0), (50, .bipush 41, 2, 0, 0), (52, .invokevirtual 193, 3, 0, 220), (55, .ireturn, 1, 0, 0), (56, .aload_n 0, 1, 0, 0), (57, .ldc 206, 2, 0, 14), (59, .invokevirtual 122, 3, 0, 219), (62, .ifCond .eq 52, 3, 0, 0), (65, .aload_n 0, 1, 0, 0), (66, .getfield 200, 3, 11, 13), (69, .bipush 6, 2, 0, 0), (71, .if_icmp .ne 5, 3, 0, 0), (74, .iconst 0, 1, 0, 0), (75, .ireturn, 1, 0, 0), (76, .aload_n 0, 1, 0, 0), (77, .dup, 1, 0, 0), (78, .getfield 200, 3, 11, 13), (81, .iconst 1, 1, 0, 0), (82, .iadd, 1, 0, 0), (83, .putfield 200, 3, 11, 13), (86, .aload_n 0, 1, 0, 0), (87, .invokevirtual 208, 3, 0, 235), (90, .ifCond .ne 5, 3, 0, 0), (93, .iconst 0, 1, 0, 0), (94, .ireturn, 1, 0, 0), (95, .aload_n 0, 1, 0, 0), (96, .dup, 1, 0, 0), (97, .getfield 200, 3, 11, 13), (100, .iconst 1, 1, 0, 0), (101, .isub, 1, 0, 0), (102, .putfield 200, 3, 11, 13), (105, .aload_n 0, 1, 0, 0), (106, .bipush 14, 2, 0, 0), (108, .iconst 0, 1, 0, 0), (109, .invokevirtual 186, 3, 0, 230), (112, .iconst 1, 1, 0, 0), (113, .ireturn, 1, 0, 0), (114, .aload_n 0, 1, 0, 0), (115, .invokevirtual 211, 3, 0, 234), (118, .ifCond .eq 5, 3, 0, 0), (121, .iconst 1, 1, 0, 0), (122, .ireturn, 1, 0, 0), (123, .aload_n 0, 1, 0, 0), (124, .invokevirtual 214, 3, 0, 233), (127, .ifCond .ne 5, 3, 0, 0), (130, .iconst 0, 1, 0, 0), (131, .ireturn, 1, 0, 0), (132, .aload_n 0, 1, 0, 0), (133, .bipush 60, 2, 0, 0), (135, .invokevirtual 193, 3, 0, 220), (138, .istore_n 1, 1, 0, 0), (139, .iload_n 1, 1, 0, 0), (140, .ifCond .ne 12, 3, 0, 0), (143, .aload_n 0, 1, 0, 0), (144, .bipush 62, 2, 0, 0), (146, .invokevirtual 193, 3, 0, 220), (149, .ifCond .eq 10, 3, 0, 0), (152, .aload_n 0, 1, 0, 0), (153, .invokevirtual 214, 3, 0, 233), (156, .ifCond .ne 5, 3, 0, 0), (159, .iconst 0, 1, 0, 0), (160, .ireturn, 1, 0, 0), (161, .aload_n 0, 1, 0, 0), (162, .iload_n 1, 1, 0, 0), (163, .ifCond .eq 8, 3, 0, 0), (166, .bipush 12, 2, 0, 0), (168, .goto 5, 3, 0, 0), (171, .bipush 13, 2, 0, 0), (173, .iconst 0, 1, 0, 0), (174, .invokevirtual 186, 3, 0, 230), (177, .iconst 1, 1, 0, 0), (178, .ireturn, 1, 0, 0)]
/-- SerialGateModel.readAtom()Z -/
def mm_M235 : mm_M := (yX11_readAtom, cX11_readAtom, 2, (some .boolean), 11, false, [], [], mm_k235)
theorem mm_d235 : mm_k235.all (fun q => mm_deq (decode cX11_readAtom q.1) q.2.1 q.2.2.1) = true := by decide +kernel
def mm_k236 : List mm_I := [(0, .aload_n 0, 1, 0, 0), (1, .invokevirtual 208, 3, 0, 235), (4, .ifCond .ne 5, 3, 0, 0), (7, .iconst 0, 1, 0, 0), (8, .ireturn, 1, 0, 0), (9, .aload_n 0, 1, 0, 0), (10, .ldc 217, 2, 0, 21), (12, .invokevirtual 122, 3, 0, 219), (15, .ifCond .eq 22, 3, 0, 0), (18, .aload_n 0, 1, 0, 0), (19, .invokevirtual 208, 3, 0, 235), (22, .ifCond .ne 5, 3, 0, 0), (25, .iconst 0, 1, 0, 0), (26, .ireturn, 1, 0, 0), (27, .aload_n 0, 1, 0, 0), (28, .bipush 15, 2, 0, 0), (30, .iconst 0, 1, 0, 0), (31, .invokevirtual 186, 3, 0, 230), (34, .goto (-25), 3, 0, 0), (37, .iconst 1, 1, 0, 0), (38, .ireturn, 1, 0, 0)]
/-- SerialGateModel.readAllOf()Z -/
def mm_M236 : mm_M := (yX11_readAllOf, cX11_readAllOf, 1, (some .boolean), 11, false, [], [], mm_k236)
theorem mm_d236 : mm_k236.all (fun q => mm_deq (decode cX11_readAllOf q.1) q.2.1 q.2.2.1) = true := by decide +kernel
def mm_k237 : List mm_I := [(0, .aload_n 0, 1, 0, 0), (1, .invokevirtual 219, 3, 0, 236), (4, .ifCond .ne 5, 3, 0, 0), (7, .iconst 0, 1, 0, 0), (8, .ireturn, 1, 0, 0), (9, .aload_n 0, 1, 0, 0), (10, .ldc 222, 2, 0, 22), (12, .invokevirtual 122, 3, 0, 219), (15, .ifCond .eq 22, 3, 0, 0), (18, .aload_n 0, 1, 0, 0), (19, .invokevirtual 219, 3, 0, 236), (22, .ifCond .ne 5, 3, 0, 0), (25, .iconst 0, 1, 0, 0), (26, .ireturn, 1, 0, 0), (27, .aload_n 0, 1, 0, 0), (28, .bipush 16, 2, 0, 0), (30, .iconst 0, 1, 0, 0), (31, .invokevirtual 186, 3, 0, 230), (34, .goto (-25), 3, 0, 0), (37, .iconst 1, 1, 0, 0), (38, .ireturn, 1, 0, 0)]
/-- SerialGateModel.readCond()Z -/
def mm_M237 : mm_M := (yX11_readCond, cX11_readCond, 1, (some .boolean), 11, false, [], [], mm_k237)
theorem mm_d237 : mm_k237.all (fun q => mm_deq (decode cX11_readCond q.1) q.2.1 q.2.2.1) = true := by decide +kernel
def mm_k238 : List mm_I := [(0, .sipush 1620, 3, 0, 0), (3, .iconst 4, 1, 0, 0), (4, .iload_n 1, 1, 0, 0), (5, .imul, 1, 0, 0), (6, .iadd, 1, 0, 0), (7, .istore_n 2, 1, 0, 0), (8, .aload_n 0, 1, 0, 0), (9, .getfield 13, 3, 11, 1), (12, .iload_n 2, 1, 0, 0), (13, .aload_n 0, 1, 0, 0), (14, .ldc 224, 2, 0, 10), (16, .invokevirtual 115, 3, 0, 218), (19, .ifCond .eq 7, 3, 0, 0), (22, .iconst 0, 1, 0, 0), (23, .goto 30, 3, 0, 0), (26, .aload_n 0, 1, 0, 0), (27, .ldc 226, 2, 0, 11), (29, .invokevirtual 115, 3, 0, 218), (32, .ifCond .eq 7, 3, 0, 0), (35, .iconst 1, 1, 0, 0), (36, .goto 17, 3, 0, 0), (39, .aload_n 0, 1, 0, 0), (40, .ldc 228, 2, 0, 12), (42, .invokevirtual 115, 3, 0, 218), (45, .ifCond .eq 7, 3, 0, 0), (48, .iconst 2, 1, 0, 0), (49, .goto 4, 3, 0, 0), (52, .iconst (-1), 1, 0, 0), (53, .iastore, 1, 0, 0), (54, .aload_n 0, 1, 0, 0), (55, .getfield 13, 3, 11, 1), (58, .iload_n 2, 1, 0, 0), (59, .iaload, 1, 0, 0), (60, .ifCond .ge 5, 3, 0, 0), (63, .iconst 0, 1, 0, 0), (64, .ireturn, 1, 0, 0), (65, .aload_n 0, 1, 0, 0), (66, .getfield 13, 3, 11, 1), (69, .iload_n 2, 1, 0, 0), (70, .iconst 1, 1, 0, 0), (71, .iadd, 1, 0, 0), (72, .aload_n 0, 1, 0, 0), (73, .iconst 0, 1, 0, 0), (74, .bipush 40, 2, 0, 0), (76, .invokevirtual 119, 3, 0, 221), (79, .iastore, 1, 0, 0), (80, .aload_n 0, 1, 0, 0), (81, .getfield 13, 3, 11, 1), (84, .iload_n 2, 1, 0, 0), (85, .iconst 1, 1, 0, 0), (86, .iadd, 1, 0, 0), (87, .iaload, 1, 0, 0), (88, .ifCond .ge 5, 3, 0, 0), (91, .iconst 0, 1, 0, 0), (92, .ireturn, 1, 0, 0), (93, .aload_n 0, 1, 0, 0), (94, .getfield 13, 3, 11, 1), (97, .iload_n 2, 1, 0, 0), (98, .iconst 2, 1, 0, 0), (99, .iadd, 1, 0, 0), (100, .aload_n 0, 1, 0, 0), (101, .getfield 172, 3, 11, 16), (104, .iastore, 1, 0, 0), (105, .aload_n 0, 1, 0, 0), (106, .iconst 0, 1, 0, 0), (107, .putfield 200, 3, 11, 13), (110, .aload_n 0, 1, 0, 0), (111, .ldc 230, 2, 0, 13), (113, .invokevirtual 122, 3, 0, 219), (116, .ifCond .eq 12, 3, 0, 0), (119, .aload_n 0, 1, 0, 0), (120, .invokevirtual 203, 3, 0, 237), (123, .ifCond .ne 5, 3, 0, 0), (126, .iconst 0, 1, 0, 0), (127, .ireturn, 1, 0, 0), (128, .aload_n 0, 1, 0, 0), (129, .getfield 13, 3, 11, 1), (132, .iload_n 2, 1, 0, 0), (133, .iconst 3, 1, 0, 0), (134, .iadd, 1, 0, 0), (135, .aload_n 0, 1, 0, 0), (136, .getfield 172, 3, 11, 16), (139, .iastore, 1, 0, 0), (140, .iconst 1, 1, 0, 0), (141, .ireturn, 1, 0, 0)]
/-- SerialGateModel.readLawLine(I)Z -/
def mm_M238 : mm_M := (yX11_readLawLine, cX11_readLawLine, 3, (some .boolean), 11, false, [], [], mm_k238)
theorem mm_d238 : mm_k238.all (fun q => mm_deq (decode cX11_readLawLine q.1) q.2.1 q.2.2.1) = true := by decide +kernel
def mm_k239 : List mm_I := [(0, .aload_n 0, 1, 0, 0), (1, .invokevirtual 112, 3, 0, 217), (4, .iload_n 2, 1, 0, 0), (5, .iload_n 1, 1, 0, 0), (6, .ifCond .eq 8, 3, 0, 0), (9, .bipush 14, 2, 0, 0), (11, .goto 5, 3, 0, 0), (14, .bipush 12, 2, 0, 0), (16, .if_icmp .ge 29, 3, 0, 0), (19, .iload_n 1, 1, 0, 0), (20, .ifCond .eq 13, 3, 0, 0), (23, .aload_n 0, 1, 0, 0), (24, .invokevirtual 232, 3, 0, 229), (27, .ifCond .eq 18, 3, 0, 0), (30, .goto 11, 3, 0, 0), (33, .aload_n 0, 1, 0, 0), (34, .iload_n 2, 1, 0, 0), (35, .invokevirtual 235, 3, 0, 238), (38, .ifCond .eq 7, 3, 0, 0), (41, .iconst 1, 1, 0, 0), (42, .goto 4, 3, 0, 0), (45, .iconst 0, 1, 0, 0), (46, .ireturn, 1, 0, 0)]
/-- SerialGateModel.readLine(ZI)Z -/
def mm_M239 : mm_M := (yX11_readLine, cX11_readLine, 3, (some .boolean), 11, false, [], [], mm_k239)
theorem mm_d239 : mm_k239.all (fun q => mm_deq (decode cX11_readLine q.1) q.2.1 q.2.2.1) = true := by decide +kernel
end
section
def mm_k240 : List mm_I := [(0, .aload_n 0, 1, 0, 0), (1, .invokevirtual 238, 3, 0, 224), (4, .aload_n 0, 1, 0, 0), (5, .iconst 0, 1, 0, 0), (6, .putfield 172, 3, 11, 16), (9, .aload_n 0, 1, 0, 0), (10, .invokevirtual 99, 3, 0, 216), (13, .aload_n 0, 1, 0, 0), (14, .getfield 87, 3, 11, 10), (17, .aload_n 0, 1, 0, 0), (18, .getfield 90, 3, 11, 11), (21, .if_icmp .ne 5, 3, 0, 0), (24, .iconst 0, 1, 0, 0), (25, .ireturn, 1, 0, 0), (26, .iconst 0, 1, 0, 0), (27, .istore_n 2, 1, 0, 0), (28, .aload_n 0, 1, 0, 0), (29, .iload_n 1, 1, 0, 0), (30, .iload_n 2, 1, 0, 0), (31, .invokevirtual 241, 3, 0, 239), (34, .ifCond .ne 5, 3, 0, 0), (37, .iconst (-1), 1, 0, 0), (38, .ireturn, 1, 0, 0), (39, .aload_n 0, 1, 0, 0), (40, .invokevirtual 99, 3, 0, 216), (43, .aload_n 0, 1, 0, 0), (44, .getfield 87, 3, 11, 10), (47, .aload_n 0, 1, 0, 0), (48, .getfield 90, 3, 11, 11), (51, .if_icmp .ne 7, 3, 0, 0), (54, .iload_n 2, 1, 0, 0), (55, .iconst 1, 1, 0, 0), (56, .iadd, 1, 0, 0), (57, .ireturn, 1, 0, 0), (58, .aload_n 0, 1, 0, 0), (59, .bipush 59, 2, 0, 0), (61, .bipush 59, 2, 0, 0), (63, .invokevirtual 93, 3, 0, 215), (66, .ifCond .ne 5, 3, 0, 0), (69, .iconst (-1), 1, 0, 0), (70, .ireturn, 1, 0, 0), (71, .aload_n 0, 1, 0, 0), (72, .dup, 1, 0, 0), (73, .getfield 87, 3, 11, 10), (76, .iconst 1, 1, 0, 0), (77, .iadd, 1, 0, 0), (78, .putfield 87, 3, 11, 10), (81, .iinc 2 1, 3, 0, 0), (84, .goto (-56), 3, 0, 0)]
/-- SerialGateModel.readAll(Z)I -/
def mm_M240 : mm_M := (yX11_readAll, cX11_readAll, 3, (some .int), 11, false, [], [], mm_k240)
theorem mm_d240 : mm_k240.all (fun q => mm_deq (decode cX11_readAll q.1) q.2.1 q.2.2.1) = true := by decide +kernel
def mm_k241 : List mm_I := [(0, .iconst 0, 1, 0, 0), (1, .istore_n 1, 1, 0, 0), (2, .iload_n 1, 1, 0, 0), (3, .sipush 1619, 3, 0, 0), (6, .if_icmp .ge 21, 3, 0, 0), (9, .aload_n 0, 1, 0, 0), (10, .getfield 20, 3, 11, 3), (13, .iload_n 1, 1, 0, 0), (14, .aload_n 0, 1, 0, 0), (15, .getfield 13, 3, 11, 1), (18, .iload_n 1, 1, 0, 0), (19, .iaload, 1, 0, 0), (20, .iastore, 1, 0, 0), (21, .iinc 1 1, 3, 0, 0), (24, .goto (-22), 3, 0, 0), (27, .aload_n 0, 1, 0, 0), (28, .iconst 1, 1, 0, 0), (29, .invokevirtual 245, 3, 0, 240), (32, .istore_n 1, 1, 0, 0), (33, .aload_n 0, 1, 0, 0), (34, .iload_n 1, 1, 0, 0), (35, .ifCond .ge 10, 3, 0, 0), (38, .aload_n 0, 1, 0, 0), (39, .getfield 96, 3, 11, 12), (42, .goto 4, 3, 0, 0), (45, .iconst (-1), 1, 0, 0), (46, .putfield 33, 3, 11, 14), (49, .aload_n 0, 1, 0, 0), (50, .iload_n 1, 1, 0, 0), (51, .ifCond .ge 7, 3, 0, 0), (54, .iconst 1, 1, 0, 0), (55, .goto 4, 3, 0, 0), (58, .iconst 0, 1, 0, 0), (59, .iconst 1, 1, 0, 0), (60, .invokevirtual 249, 3, 0, 188), (63, .ifCond .ne 27, 3, 0, 0), (66, .aload_n 0, 1, 0, 0), (67, .aload_n 0, 1, 0, 0), (68, .getfield 13, 3, 11, 1), (71, .iconst 1, 1, 0, 0), (72, .iaload, 1, 0, 0), (73, .bipush 12, 2, 0, 0), (75, .if_icmp .ne 7, 3, 0, 0), (78, .iconst 1, 1, 0, 0), (79, .goto 4, 3, 0, 0), (82, .iconst 0, 1, 0, 0), (83, .iconst 2, 1, 0, 0), (84, .invokevirtual 249, 3, 0, 188), (87, .ifCond .eq 32, 3, 0, 0), (90, .iconst 0, 1, 0, 0), (91, .istore_n 2, 1, 0, 0), (92, .iload_n 2, 1, 0, 0), (93, .sipush 1619, 3, 0, 0), (96, .if_icmp .ge 21, 3, 0, 0), (99, .aload_n 0, 1, 0, 0), (100, .getfield 13, 3, 11, 1), (103, .iload_n 2, 1, 0, 0), (104, .aload_n 0, 1, 0, 0), (105, .getfield 20, 3, 11, 3), (108, .iload_n 2, 1, 0, 0), (109, .iaload, 1, 0, 0), (110, .iastore, 1, 0, 0), (111, .iinc 2 1, 3, 0, 0), (114, .goto (-22), 3, 0, 0), (117, .iconst 0, 1, 0, 0), (118, .ireturn, 1, 0, 0), (119, .aload_n 0, 1, 0, 0), (120, .getfield 13, 3, 11, 1), (123, .iconst 1, 1, 0, 0), (124, .dup2, 1, 0, 0), (125, .iaload, 1, 0, 0), (126, .iconst 1, 1, 0, 0), (127, .iadd, 1, 0, 0), (128, .iastore, 1, 0, 0), (129, .aload_n 0, 1, 0, 0), (130, .invokevirtual 252, 3, 0, 261), (133, .aload_n 0, 1, 0, 0), (134, .iconst 0, 1, 0, 0), (135, .putfield 56, 3, 11, 7), (138, .aload_n 0, 1, 0, 0), (139, .getfield 13, 3, 11, 1), (142, .iconst 1, 1, 0, 0), (143, .iaload, 1, 0, 0), (144, .ireturn, 1, 0, 0)]
/-- SerialGateModel.store()I -/
def mm_M241 : mm_M := (yX11_store, cX11_store, 3, (some .int), 11, false, [], [], mm_k241)
theorem mm_d241 : mm_k241.all (fun q => mm_deq (decode cX11_store q.1) q.2.1 q.2.2.1) = true := by decide +kernel
def mm_k242 : List mm_I := [(0, .aload_n 0, 1, 0, 0), (1, .iconst 0, 1, 0, 0), (2, .invokevirtual 245, 3, 0, 240), (5, .istore_n 1, 1, 0, 0), (6, .aload_n 0, 1, 0, 0), (7, .iload_n 1, 1, 0, 0), (8, .ifCond .ge 10, 3, 0, 0), (11, .aload_n 0, 1, 0, 0), (12, .getfield 96, 3, 11, 12), (15, .goto 4, 3, 0, 0), (18, .iconst (-1), 1, 0, 0), (19, .putfield 33, 3, 11, 14), (22, .aload_n 0, 1, 0, 0), (23, .iload_n 1, 1, 0, 0), (24, .ifCond .ge 7, 3, 0, 0), (27, .iconst 1, 1, 0, 0), (28, .goto 4, 3, 0, 0), (31, .iconst 0, 1, 0, 0), (32, .iconst 1, 1, 0, 0), (33, .invokevirtual 249, 3, 0, 188), (36, .ifCond .eq 5, 3, 0, 0), (39, .iconst 0, 1, 0, 0), (40, .ireturn, 1, 0, 0), (41, .aload_n 0, 1, 0, 0), (42, .getfield 13, 3, 11, 1), (45, .sipush 1619, 3, 0, 0), (48, .iload_n 1, 1, 0, 0), (49, .iastore, 1, 0, 0), (50, .iconst 0, 1, 0, 0), (51, .istore_n 2, 1, 0, 0), (52, .iload_n 2, 1, 0, 0), (53, .sipush 849, 3, 0, 0), (56, .if_icmp .ge 29, 3, 0, 0), (59, .aload_n 0, 1, 0, 0), (60, .getfield 13, 3, 11, 1), (63, .sipush 770, 3, 0, 0), (66, .iload_n 2, 1, 0, 0), (67, .iadd, 1, 0, 0), (68, .aload_n 0, 1, 0, 0), (69, .getfield 13, 3, 11, 1), (72, .sipush 1619, 3, 0, 0), (75, .iload_n 2, 1, 0, 0), (76, .iadd, 1, 0, 0), (77, .iaload, 1, 0, 0), (78, .iastore, 1, 0, 0), (79, .iinc 2 1, 3, 0, 0), (82, .goto (-30), 3, 0, 0), (85, .aload_n 0, 1, 0, 0), (86, .getfield 13, 3, 11, 1), (89, .iconst 2, 1, 0, 0), (90, .iconst 1, 1, 0, 0), (91, .iastore, 1, 0, 0), (92, .aload_n 0, 1, 0, 0), (93, .iconst 0, 1, 0, 0), (94, .putfield 56, 3, 11, 7), (97, .iload_n 1, 1, 0, 0), (98, .ireturn, 1, 0, 0)]
/-- SerialGateModel.law()I -/
def mm_M242 : mm_M := (yX11_law, cX11_law, 3, (some .int), 11, false, [], [], mm_k242)
theorem mm_d242 : mm_k242.all (fun q => mm_deq (decode cX11_law q.1) q.2.1 q.2.2.1) = true := by decide +kernel
def mm_k243 : List mm_I := [(0, .aload_n 0, 1, 0, 0), (1, .iload_n 1, 1, 0, 0), (2, .invokevirtual 255, 3, 0, 211), (5, .ifCond .ne 13, 3, 0, 0), (8, .aload_n 0, 1, 0, 0), (9, .iload_n 1, 1, 0, 0), (10, .bipush 9, 2, 0, 0), (12, .invokevirtual 69, 3, 0, 204), (15, .ifCond .le 27, 3, 0, 0), (18, .aload_n 0, 1, 0, 0), (19, .iload_n 1, 1, 0, 0), (20, .bipush 7, 2, 0, 0), (22, .invokevirtual 69, 3, 0, 204), (25, .ifCond .ne 13, 3, 0, 0), (28, .aload_n 0, 1, 0, 0), (29, .iload_n 1, 1, 0, 0), (30, .bipush 8, 2, 0, 0), (32, .invokevirtual 69, 3, 0, 204), (35, .ifCond .le 7, 3, 0, 0), (38, .iconst 1, 1, 0, 0), (39, .goto 4, 3, 0, 0), (42, .iconst 0, 1, 0, 0), (43, .ireturn, 1, 0, 0)]
/-- SerialGateModel.isPivot(I)Z -/
def mm_M243 : mm_M := (yX11_isPivot, cX11_isPivot, 2, (some .boolean), 11, false, [], [], mm_k243)
theorem mm_d243 : mm_k243.all (fun q => mm_deq (decode cX11_isPivot q.1) q.2.1 q.2.2.1) = true := by decide +kernel
def mm_k244 : List mm_I := [(0, .aload_n 0, 1, 0, 0), (1, .iload_n 3, 1, 0, 0), (2, .iconst 1, 1, 0, 0), (3, .invokevirtual 69, 3, 0, 204), (6, .istore 4, 2, 0, 0), (8, .iload_n 1, 1, 0, 0), (9, .tableswitch 151 0 9 #[55, 57, 60, 74, 84, 95, 103, 113, 121, 135], 55, 0, 0), (64, .iload_n 3, 1, 0, 0), (65, .ireturn, 1, 0, 0), (66, .iload 4, 2, 0, 0), (68, .ireturn, 1, 0, 0), (69, .aload_n 0, 1, 0, 0), (70, .getfield 13, 3, 11, 1), (73, .iconst 3, 1, 0, 0), (74, .iaload, 1, 0, 0), (75, .aload_n 0, 1, 0, 0), (76, .iload_n 3, 1, 0, 0), (77, .iconst 2, 1, 0, 0), (78, .invokevirtual 69, 3, 0, 204), (81, .isub, 1, 0, 0), (82, .ireturn, 1, 0, 0), (83, .aload_n 0, 1, 0, 0), (84, .iload_n 3, 1, 0, 0), (85, .iconst 5, 1, 0, 0), (86, .invokevirtual 69, 3, 0, 204), (89, .invokestatic 258, 3, 0, 343), (92, .ireturn, 1, 0, 0), (93, .aload_n 0, 1, 0, 0), (94, .iload_n 3, 1, 0, 0), (95, .bipush 6, 2, 0, 0), (97, .invokevirtual 69, 3, 0, 204), (100, .invokestatic 258, 3, 0, 343), (103, .ireturn, 1, 0, 0), (104, .aload_n 0, 1, 0, 0), (105, .iload 4, 2, 0, 0), (107, .iconst 3, 1, 0, 0), (108, .invokevirtual 72, 3, 0, 202), (111, .ireturn, 1, 0, 0), (112, .aload_n 0, 1, 0, 0), (113, .getfield 13, 3, 11, 1), (116, .iconst 3, 1, 0, 0), (117, .iaload, 1, 0, 0), (118, .bipush 100, 2, 0, 0), (120, .irem, 1, 0, 0), (121, .ireturn, 1, 0, 0), (122, .aload_n 0, 1, 0, 0), (123, .iload 4, 2, 0, 0), (125, .iconst 2, 1, 0, 0), (126, .invokevirtual 72, 3, 0, 202), (129, .ireturn, 1, 0, 0), (130, .aload_n 0, 1, 0, 0), (131, .iload_n 3, 1, 0, 0), (132, .invokevirtual 263, 3, 0, 243), (135, .ifCond .eq 7, 3, 0, 0), (138, .iconst 1, 1, 0, 0), (139, .goto 4, 3, 0, 0), (142, .iconst 0, 1, 0, 0), (143, .ireturn, 1, 0, 0), (144, .aload_n 0, 1, 0, 0), (145, .iload 4, 2, 0, 0), (147, .iconst 3, 1, 0, 0), (148, .invokevirtual 72, 3, 0, 202), (151, .ifCond .le 7, 3, 0, 0), (154, .iconst 1, 1, 0, 0), (155, .goto 4, 3, 0, 0), (158, .iconst 0, 1, 0, 0), (159, .ireturn, 1, 0, 0), (160, .iload_n 2, 1, 0, 0), (161, .ireturn, 1, 0, 0)]
/-- SerialGateModel.factOf(III)I -/
def mm_M244 : mm_M := (yX11_factOf, cX11_factOf, 5, (some .int), 11, false, [], [], mm_k244)
theorem mm_d244 : mm_k244.all (fun q => mm_deq (decode cX11_factOf q.1) q.2.1 q.2.2.1) = true := by decide +kernel
def mm_k245 : List mm_I := [(0, .iconst 0, 1, 0, 0), (1, .istore_n 3, 1, 0, 0), (2, .sipush 771, 3, 0, 0), (5, .iconst 4, 1, 0, 0), (6, .iload_n 1, 1, 0, 0), (7, .imul, 1, 0, 0), (8, .iadd, 1, 0, 0), (9, .istore 4, 2, 0, 0), (11, .aload_n 0, 1, 0, 0), (12, .getfield 13, 3, 11, 1), (15, .iload 4, 2, 0, 0), (17, .iconst 2, 1, 0, 0), (18, .iadd, 1, 0, 0), (19, .iaload, 1, 0, 0), (20, .istore 5, 2, 0, 0), (22, .iload 5, 2, 0, 0), (24, .aload_n 0, 1, 0, 0), (25, .getfield 13, 3, 11, 1), (28, .iload 4, 2, 0, 0), (30, .iconst 3, 1, 0, 0), (31, .iadd, 1, 0, 0), (32, .iaload, 1, 0, 0), (33, .if_icmp .ge 230, 3, 0, 0), (36, .aload_n 0, 1, 0, 0), (37, .getfield 13, 3, 11, 1), (40, .sipush 819, 3, 0, 0), (43, .iconst 2, 1, 0, 0), (44, .iload 5, 2, 0, 0), (46, .imul, 1, 0, 0), (47, .iadd, 1, 0, 0), (48, .iaload, 1, 0, 0), (49, .istore 6, 2, 0, 0), (51, .iload 6, 2, 0, 0), (53, .bipush 10, 2, 0, 0), (55, .if_icmp .gt 37, 3, 0, 0), (58, .aload_n 0, 1, 0, 0), (59, .getfield 39, 3, 11, 17), (62, .iload_n 3, 1, 0, 0), (63, .aload_n 0, 1, 0, 0), (64, .iload 6, 2, 0, 0), (66, .aload_n 0, 1, 0, 0), (67, .getfield 13, 3, 11, 1), (70, .sipush 819, 3, 0, 0), (73, .iconst 2, 1, 0, 0), (74, .iload 5, 2, 0, 0), (76, .imul, 1, 0, 0), (77, .iadd, 1, 0, 0), (78, .iconst 1, 1, 0, 0), (79, .iadd, 1, 0, 0), (80, .iaload, 1, 0, 0), (81, .iload_n 2, 1, 0, 0), (82, .invokevirtual 266, 3, 0, 244), (85, .iastore, 1, 0, 0), (86, .iinc 3 1, 3, 0, 0), (89, .goto 168, 3, 0, 0), (92, .iload 6, 2, 0, 0), (94, .bipush 14, 2, 0, 0), (96, .if_icmp .ne 24, 3, 0, 0), (99, .aload_n 0, 1, 0, 0), (100, .getfield 39, 3, 11, 17), (103, .iload_n 3, 1, 0, 0), (104, .iconst 1, 1, 0, 0), (105, .isub, 1, 0, 0), (106, .iconst 1, 1, 0, 0), (107, .aload_n 0, 1, 0, 0), (108, .getfield 39, 3, 11, 17), (111, .iload_n 3, 1, 0, 0), (112, .iconst 1, 1, 0, 0), (113, .isub, 1, 0, 0), (114, .iaload, 1, 0, 0), (115, .isub, 1, 0, 0), (116, .iastore, 1, 0, 0), (117, .goto 140, 3, 0, 0), (120, .iinc 3 (-1), 3, 0, 0), (123, .aload_n 0, 1, 0, 0), (124, .getfield 39, 3, 11, 17), (127, .iload_n 3, 1, 0, 0), (128, .iconst 1, 1, 0, 0), (129, .isub, 1, 0, 0), (130, .iaload, 1, 0, 0), (131, .istore 7, 2, 0, 0), (133, .aload_n 0, 1, 0, 0), (134, .getfield 39, 3, 11, 17), (137, .iload_n 3, 1, 0, 0), (138, .iaload, 1, 0, 0), (139, .istore 8, 2, 0, 0), (141, .iload 6, 2, 0, 0), (143, .bipush 12, 2, 0, 0), (145, .if_icmp .ne 18, 3, 0, 0), (148, .iload 7, 2, 0, 0), (150, .iload 8, 2, 0, 0), (152, .if_icmp .ge 7, 3, 0, 0), (155, .iconst 1, 1, 0, 0), (156, .goto 66, 3, 0, 0), (159, .iconst 0, 1, 0, 0), (160, .goto 62, 3, 0, 0), (163, .iload 6, 2, 0, 0), (165, .bipush 13, 2, 0, 0), (167, .if_icmp .ne 18, 3, 0, 0), (170, .iload 7, 2, 0, 0), (172, .iload 8, 2, 0, 0), (174, .if_icmp .le 7, 3, 0, 0), (177, .iconst 1, 1, 0, 0), (178, .goto 44, 3, 0, 0), (181, .iconst 0, 1, 0, 0), (182, .goto 40, 3, 0, 0), (185, .iload 6, 2, 0, 0), (187, .bipush 15, 2, 0, 0), (189, .if_icmp .ne 20, 3, 0, 0), (192, .iload 7, 2, 0, 0), (194, .iload 8, 2, 0, 0), (196, .iadd, 1, 0, 0), (197, .iconst 2, 1, 0, 0), (198, .if_icmp .ne 7, 3, 0, 0), (201, .iconst 1, 1, 0, 0), (202, .goto 20, 3, 0, 0), (205, .iconst 0, 1, 0, 0), (206, .goto 16, 3, 0, 0), (209, .iload 7, 2, 0, 0), (211, .iload 8, 2, 0, 0), (213, .iadd, 1, 0, 0), (214, .ifCond .le 7, 3, 0, 0), (217, .iconst 1, 1, 0, 0), (218, .goto 4, 3, 0, 0), (221, .iconst 0, 1, 0, 0), (222, .istore 9, 2, 0, 0), (224, .aload_n 0, 1, 0, 0), (225, .getfield 39, 3, 11, 17), (228, .iload_n 3, 1, 0, 0), (229, .iconst 1, 1, 0, 0), (230, .isub, 1, 0, 0), (231, .iload 6, 2, 0, 0), (233, .bipush 11, 2, 0, 0), (235, .if_icmp .ne 11, 3, 0, 0), (238, .iload 7, 2, 0, 0), (240, .iload 8, 2, 0, 0), (242, .iadd, 1, 0, 0), (243, .goto 13, 3, 0, 0), (246, .iload 9, 2, 0, 0), (248, .ifCond .eq 7, 3, 0, 0), (251, .iconst 1, 1, 0, 0), (252, .goto 4, 3, 0, 0), (255, .iconst 0, 1, 0, 0), (256, .iastore, 1, 0, 0), (257, .iinc 5 1, 3, 0, 0), (260, .goto (-238), 3, 0, 0), (263, .iload_n 3, 1, 0, 0), (264, .ifCond .eq 13, 3, 0, 0), (267, .aload_n 0, 1, 0, 0), (268, .getfield 39, 3, 11, 17), (271, .iconst 0, 1, 0, 0), (272, .iaload, 1, 0, 0), (273, .iconst 1, 1, 0, 0), (274, .if_icmp .ne 7, 3, 0, 0), (277, .iconst 1, 1, 0, 0), (278, .goto 4, 3, 0, 0), (281, .iconst 0, 1, 0, 0), (282, .ireturn, 1, 0, 0)]
/-- SerialGateModel.holdsLine(II)Z -/
def mm_M245 : mm_M := (yX11_holdsLine, cX11_holdsLine, 10, (some .boolean), 11, false, [], [], mm_k245)
theorem mm_d245 : mm_k245.all (fun q => mm_deq (decode cX11_holdsLine q.1) q.2.1 q.2.2.1) = true := by decide +kernel
def mm_k246 : List mm_I := [(0, .iconst 0, 1, 0, 0), (1, .istore_n 3, 1, 0, 0), (2, .iconst 0, 1, 0, 0), (3, .istore 4, 2, 0, 0), (5, .aload_n 0, 1, 0, 0), (6, .getfield 13, 3, 11, 1), (9, .iconst 2, 1, 0, 0), (10, .iaload, 1, 0, 0), (11, .iconst 1, 1, 0, 0), (12, .if_icmp .ne 67, 3, 0, 0), (15, .iload 4, 2, 0, 0), (17, .aload_n 0, 1, 0, 0), (18, .getfield 13, 3, 11, 1), (21, .sipush 770, 3, 0, 0), (24, .iaload, 1, 0, 0), (25, .if_icmp .ge 54, 3, 0, 0), (28, .aload_n 0, 1, 0, 0), (29, .getfield 13, 3, 11, 1), (32, .sipush 771, 3, 0, 0), (35, .iconst 4, 1, 0, 0), (36, .iload 4, 2, 0, 0), (38, .imul, 1, 0, 0), (39, .iadd, 1, 0, 0), (40, .iaload, 1, 0, 0), (41, .iload_n 1, 1, 0, 0), (42, .if_icmp .ne 31, 3, 0, 0), (45, .aload_n 0, 1, 0, 0), (46, .iload 4, 2, 0, 0), (48, .iload_n 2, 1, 0, 0), (49, .invokevirtual 270, 3, 0, 245), (52, .ifCond .eq 21, 3, 0, 0), (55, .iload_n 3, 1, 0, 0), (56, .aload_n 0, 1, 0, 0), (57, .getfield 13, 3, 11, 1), (60, .sipush 771, 3, 0, 0), (63, .iconst 4, 1, 0, 0), (64, .iload 4, 2, 0, 0), (66, .imul, 1, 0, 0), (67, .iadd, 1, 0, 0), (68, .iconst 1, 1, 0, 0), (69, .iadd, 1, 0, 0), (70, .iaload, 1, 0, 0), (71, .iadd, 1, 0, 0), (72, .istore_n 3, 1, 0, 0), (73, .iinc 4 1, 3, 0, 0), (76, .goto (-71), 3, 0, 0), (79, .iload_n 3, 1, 0, 0), (80, .ireturn, 1, 0, 0)]
/-- SerialGateModel.sumOf(II)I -/
def mm_M246 : mm_M := (yX11_sumOf, cX11_sumOf, 5, (some .int), 11, false, [], [], mm_k246)
theorem mm_d246 : mm_k246.all (fun q => mm_deq (decode cX11_sumOf q.1) q.2.1 q.2.2.1) = true := by decide +kernel
def mm_k247 : List mm_I := [(0, .iconst 0, 1, 0, 0), (1, .bipush 10, 2, 0, 0), (3, .aload_n 0, 1, 0, 0), (4, .iconst 0, 1, 0, 0), (5, .iload_n 1, 1, 0, 0), (6, .invokevirtual 273, 3, 0, 246), (9, .iadd, 1, 0, 0), (10, .aload_n 0, 1, 0, 0), (11, .iconst 1, 1, 0, 0), (12, .iload_n 1, 1, 0, 0), (13, .invokevirtual 273, 3, 0, 246), (16, .isub, 1, 0, 0), (17, .invokestatic 276, 3, 0, 344), (20, .ireturn, 1, 0, 0)]
/-- SerialGateModel.blameOf(I)I -/
def mm_M247 : mm_M := (yX11_blameOf, cX11_blameOf, 2, (some .int), 11, false, [], [], mm_k247)
theorem mm_d247 : mm_k247.all (fun q => mm_deq (decode cX11_blameOf q.1) q.2.1 q.2.2.1) = true := by decide +kernel
def mm_k248 : List mm_I := [(0, .iconst 1, 1, 0, 0), (1, .aload_n 0, 1, 0, 0), (2, .iconst 2, 1, 0, 0), (3, .iload_n 1, 1, 0, 0), (4, .invokevirtual 273, 3, 0, 246), (7, .iadd, 1, 0, 0), (8, .ireturn, 1, 0, 0)]
/-- SerialGateModel.payOf(I)I -/
def mm_M248 : mm_M := (yX11_payOf, cX11_payOf, 2, (some .int), 11, false, [], [], mm_k248)
theorem mm_d248 : mm_k248.all (fun q => mm_deq (decode cX11_payOf q.1) q.2.1 q.2.2.1) = true := by decide +kernel
def mm_k249 : List mm_I := [(0, .sipush 239, 3, 0, 0), (3, .istore_n 3, 1, 0, 0), (4, .iload_n 3, 1, 0, 0), (5, .iconst 4, 1, 0, 0), (6, .if_icmp .lt 31, 3, 0, 0), (9, .aload_n 0, 1, 0, 0), (10, .getfield 13, 3, 11, 1), (13, .sipush 530, 3, 0, 0), (16, .iload_n 3, 1, 0, 0), (17, .iadd, 1, 0, 0), (18, .aload_n 0, 1, 0, 0), (19, .getfield 13, 3, 11, 1), (22, .sipush 530, 3, 0, 0), (25, .iload_n 3, 1, 0, 0), (26, .iadd, 1, 0, 0), (27, .iconst 4, 1, 0, 0), (28, .isub, 1, 0, 0), (29, .iaload, 1, 0, 0), (30, .iastore, 1, 0, 0), (31, .iinc 3 (-1), 3, 0, 0), (34, .goto (-30), 3, 0, 0), (37, .aload_n 0, 1, 0, 0), (38, .getfield 13, 3, 11, 1), (41, .sipush 530, 3, 0, 0), (44, .aload_n 0, 1, 0, 0), (45, .getfield 13, 3, 11, 1), (48, .iconst 3, 1, 0, 0), (49, .iaload, 1, 0, 0), (50, .iastore, 1, 0, 0), (51, .aload_n 0, 1, 0, 0), (52, .getfield 13, 3, 11, 1), (55, .sipush 531, 3, 0, 0), (58, .aload_n 0, 1, 0, 0), (59, .iload_n 1, 1, 0, 0), (60, .iconst 1, 1, 0, 0), (61, .invokevirtual 69, 3, 0, 204), (64, .iastore, 1, 0, 0), (65, .aload_n 0, 1, 0, 0), (66, .getfield 13, 3, 11, 1), (69, .sipush 532, 3, 0, 0), (72, .iload_n 2, 1, 0, 0), (73, .iastore, 1, 0, 0), (74, .aload_n 0, 1, 0, 0), (75, .getfield 13, 3, 11, 1), (78, .sipush 533, 3, 0, 0), (81, .iload_n 1, 1, 0, 0), (82, .iastore, 1, 0, 0), (83, .aload_n 0, 1, 0, 0), (84, .getfield 13, 3, 11, 1), (87, .bipush 6, 2, 0, 0), (89, .bipush 60, 2, 0, 0), (91, .aload_n 0, 1, 0, 0), (92, .getfield 13, 3, 11, 1), (95, .bipush 6, 2, 0, 0), (97, .iaload, 1, 0, 0), (98, .iconst 1, 1, 0, 0), (99, .iadd, 1, 0, 0), (100, .invokestatic 149, 3, 0, 345), (103, .iastore, 1, 0, 0), (104, .return_, 1, 0, 0)]
/-- SerialGateModel.isTold(II)V -/
def mm_M249 : mm_M := (yX11_isTold, cX11_isTold, 4, none, 11, false, [], [], mm_k249)
theorem mm_d249 : mm_k249.all (fun q => mm_deq (decode cX11_isTold q.1) q.2.1 q.2.2.1) = true := by decide +kernel
def mm_k250 : List mm_I := [(0, .iload_n 1, 1, 0, 0), (1, .iload_n 2, 1, 0, 0), (2, .if_icmp .eq 38, 3, 0, 0), (5, .aload_n 0, 1, 0, 0), (6, .iload_n 2, 1, 0, 0), (7, .invokevirtual 75, 3, 0, 205), (10, .ifCond .ne 26, 3, 0, 0), (13, .aload_n 0, 1, 0, 0), (14, .iload_n 2, 1, 0, 0), (15, .invokevirtual 279, 3, 0, 206), (18, .ifCond .eq 22, 3, 0, 0), (21, .aload_n 0, 1, 0, 0), (22, .iload_n 2, 1, 0, 0), (23, .iconst 3, 1, 0, 0), (24, .invokevirtual 69, 3, 0, 204), (27, .aload_n 0, 1, 0, 0), (28, .iload_n 1, 1, 0, 0), (29, .iconst 2, 1, 0, 0), (30, .invokevirtual 69, 3, 0, 204), (33, .if_icmp .le 7, 3, 0, 0), (36, .iconst 1, 1, 0, 0), (37, .goto 4, 3, 0, 0), (40, .iconst 0, 1, 0, 0), (41, .ireturn, 1, 0, 0)]
/-- SerialGateModel.areConcurrent(II)Z -/
def mm_M250 : mm_M := (yX11_areConcurrent, cX11_areConcurrent, 3, (some .boolean), 11, false, [], [], mm_k250)
theorem mm_d250 : mm_k250.all (fun q => mm_deq (decode cX11_areConcurrent q.1) q.2.1 q.2.2.1) = true := by decide +kernel
def mm_k251 : List mm_I := [(0, .aload_n 0, 1, 0, 0), (1, .iload_n 1, 1, 0, 0), (2, .bipush 8, 2, 0, 0), (4, .invokevirtual 69, 3, 0, 204), (7, .istore_n 2, 1, 0, 0), (8, .iconst 0, 1, 0, 0), (9, .istore_n 3, 1, 0, 0), (10, .iload_n 3, 1, 0, 0), (11, .bipush 8, 2, 0, 0), (13, .if_icmp .ge 55, 3, 0, 0), (16, .aload_n 0, 1, 0, 0), (17, .iload_n 1, 1, 0, 0), (18, .bipush 7, 2, 0, 0), (20, .invokevirtual 69, 3, 0, 204), (23, .iload_n 3, 1, 0, 0), (24, .invokestatic 79, 3, 0, 190), (27, .ifCond .eq 35, 3, 0, 0), (30, .aload_n 0, 1, 0, 0), (31, .iload_n 3, 1, 0, 0), (32, .invokevirtual 279, 3, 0, 206), (35, .ifCond .eq 27, 3, 0, 0), (38, .iload_n 2, 1, 0, 0), (39, .ifCond .ne 12, 3, 0, 0), (42, .aload_n 0, 1, 0, 0), (43, .iload_n 3, 1, 0, 0), (44, .iconst 3, 1, 0, 0), (45, .invokevirtual 69, 3, 0, 204), (48, .goto 13, 3, 0, 0), (51, .iload_n 2, 1, 0, 0), (52, .aload_n 0, 1, 0, 0), (53, .iload_n 3, 1, 0, 0), (54, .iconst 3, 1, 0, 0), (55, .invokevirtual 69, 3, 0, 204), (58, .invokestatic 149, 3, 0, 345), (61, .istore_n 2, 1, 0, 0), (62, .iinc 3 1, 3, 0, 0), (65, .goto (-55), 3, 0, 0), (68, .iload_n 2, 1, 0, 0), (69, .ireturn, 1, 0, 0)]
/-- SerialGateModel.firstOut(I)I -/
def mm_M251 : mm_M := (yX11_firstOut, cX11_firstOut, 4, (some .int), 11, false, [], [], mm_k251)
theorem mm_d251 : mm_k251.all (fun q => mm_deq (decode cX11_firstOut q.1) q.2.1 q.2.2.1) = true := by decide +kernel
def mm_k252 : List mm_I := [(0, .aload_n 0, 1, 0, 0), (1, .iload_n 1, 1, 0, 0), (2, .invokevirtual 75, 3, 0, 205), (5, .ifCond .eq 25, 3, 0, 0), (8, .aload_n 0, 1, 0, 0), (9, .iload_n 1, 1, 0, 0), (10, .invokevirtual 282, 3, 0, 207), (13, .ifCond .eq 17, 3, 0, 0), (16, .aload_n 0, 1, 0, 0), (17, .iload_n 1, 1, 0, 0), (18, .bipush 10, 2, 0, 0), (20, .invokevirtual 69, 3, 0, 204), (23, .ifCond .ne 7, 3, 0, 0), (26, .iconst 1, 1, 0, 0), (27, .goto 4, 3, 0, 0), (30, .iconst 0, 1, 0, 0), (31, .istore_n 2, 1, 0, 0), (32, .iconst 0, 1, 0, 0), (33, .istore_n 3, 1, 0, 0), (34, .iload_n 3, 1, 0, 0), (35, .bipush 8, 2, 0, 0), (37, .if_icmp .ge 50, 3, 0, 0), (40, .iload_n 2, 1, 0, 0), (41, .ifCond .eq 38, 3, 0, 0), (44, .aload_n 0, 1, 0, 0), (45, .iload_n 3, 1, 0, 0), (46, .invokevirtual 75, 3, 0, 205), (49, .ifCond .eq 26, 3, 0, 0), (52, .aload_n 0, 1, 0, 0), (53, .iload_n 3, 1, 0, 0), (54, .invokevirtual 282, 3, 0, 207), (57, .ifCond .ne 18, 3, 0, 0), (60, .aload_n 0, 1, 0, 0), (61, .iload_n 3, 1, 0, 0), (62, .iconst 2, 1, 0, 0), (63, .invokevirtual 69, 3, 0, 204), (66, .aload_n 0, 1, 0, 0), (67, .iload_n 1, 1, 0, 0), (68, .iconst 2, 1, 0, 0), (69, .invokevirtual 69, 3, 0, 204), (72, .if_icmp .lt 7, 3, 0, 0), (75, .iconst 1, 1, 0, 0), (76, .goto 4, 3, 0, 0), (79, .iconst 0, 1, 0, 0), (80, .istore_n 2, 1, 0, 0), (81, .iinc 3 1, 3, 0, 0), (84, .goto (-50), 3, 0, 0), (87, .iload_n 2, 1, 0, 0), (88, .ireturn, 1, 0, 0)]
/-- SerialGateModel.isSafe(I)Z -/
def mm_M252 : mm_M := (yX11_isSafe, cX11_isSafe, 4, (some .boolean), 11, false, [], [], mm_k252)
theorem mm_d252 : mm_k252.all (fun q => mm_deq (decode cX11_isSafe q.1) q.2.1 q.2.2.1) = true := by decide +kernel
def mm_k253 : List mm_I := [(0, .iconst 0, 1, 0, 0), (1, .istore_n 2, 1, 0, 0), (2, .iload_n 2, 1, 0, 0), (3, .bipush 8, 2, 0, 0), (5, .if_icmp .ge 28, 3, 0, 0), (8, .aload_n 0, 1, 0, 0), (9, .getfield 13, 3, 11, 1), (12, .iload_n 2, 1, 0, 0), (13, .bipush 7, 2, 0, 0), (15, .invokestatic 66, 3, 0, 203), (18, .dup2, 1, 0, 0), (19, .iaload, 1, 0, 0), (20, .iconst 1, 1, 0, 0), (21, .iload_n 1, 1, 0, 0), (22, .ishl, 1, 0, 0), (23, .iconst (-1), 1, 0, 0), (24, .ixor, 1, 0, 0), (25, .iand, 1, 0, 0), (26, .iastore, 1, 0, 0), (27, .iinc 2 1, 3, 0, 0), (30, .goto (-28), 3, 0, 0), (33, .iconst 0, 1, 0, 0), (34, .istore_n 2, 1, 0, 0), (35, .iload_n 2, 1, 0, 0), (36, .bipush 21, 2, 0, 0), (38, .if_icmp .ge 20, 3, 0, 0), (41, .aload_n 0, 1, 0, 0), (42, .getfield 13, 3, 11, 1), (45, .iload_n 1, 1, 0, 0), (46, .iload_n 2, 1, 0, 0), (47, .invokestatic 66, 3, 0, 203), (50, .iconst 0, 1, 0, 0), (51, .iastore, 1, 0, 0), (52, .iinc 2 1, 3, 0, 0), (55, .goto (-20), 3, 0, 0), (58, .return_, 1, 0, 0)]
/-- SerialGateModel.isFree(I)V -/
def mm_M253 : mm_M := (yX11_isFree, cX11_isFree, 3, none, 11, false, [], [], mm_k253)
theorem mm_d253 : mm_k253.all (fun q => mm_deq (decode cX11_isFree q.1) q.2.1 q.2.2.1) = true := by decide +kernel
def mm_k254 : List mm_I := [(0, .aload_n 0, 1, 0, 0), (1, .iload_n 1, 1, 0, 0), (2, .iconst 1, 1, 0, 0), (3, .invokevirtual 69, 3, 0, 204), (6, .istore_n 3, 1, 0, 0), (7, .aload_n 0, 1, 0, 0), (8, .iload_n 1, 1, 0, 0), (9, .iload_n 2, 1, 0, 0), (10, .invokevirtual 285, 3, 0, 249), (13, .aload_n 0, 1, 0, 0), (14, .iload_n 1, 1, 0, 0), (15, .invokevirtual 288, 3, 0, 253), (18, .aload_n 0, 1, 0, 0), (19, .getfield 13, 3, 11, 1), (22, .iload_n 3, 1, 0, 0), (23, .iconst 3, 1, 0, 0), (24, .invokestatic 63, 3, 0, 201), (27, .bipush 99, 2, 0, 0), (29, .aload_n 0, 1, 0, 0), (30, .iload_n 3, 1, 0, 0), (31, .iconst 3, 1, 0, 0), (32, .invokevirtual 72, 3, 0, 202), (35, .iconst 1, 1, 0, 0), (36, .iadd, 1, 0, 0), (37, .invokestatic 149, 3, 0, 345), (40, .iastore, 1, 0, 0), (41, .aload_n 0, 1, 0, 0), (42, .dup, 1, 0, 0), (43, .getfield 292, 3, 11, 18), (46, .iconst 1, 1, 0, 0), (47, .iload_n 1, 1, 0, 0), (48, .ishl, 1, 0, 0), (49, .ior, 1, 0, 0), (50, .putfield 292, 3, 11, 18), (53, .return_, 1, 0, 0)]
/-- SerialGateModel.isAborted(II)V -/
def mm_M254 : mm_M := (yX11_isAborted, cX11_isAborted, 4, none, 11, false, [], [], mm_k254)
theorem mm_d254 : mm_k254.all (fun q => mm_deq (decode cX11_isAborted q.1) q.2.1 q.2.2.1) = true := by decide +kernel
def mm_k255 : List mm_I := [(0, .aload_n 0, 1, 0, 0), (1, .iload_n 1, 1, 0, 0), (2, .iconst 0, 1, 0, 0), (3, .invokevirtual 69, 3, 0, 204), (6, .ifCond .ne 7, 3, 0, 0), (9, .iconst 0, 1, 0, 0), (10, .goto 8, 3, 0, 0), (13, .aload_n 0, 1, 0, 0), (14, .iload_n 1, 1, 0, 0), (15, .invokevirtual 295, 3, 0, 251), (18, .istore_n 2, 1, 0, 0), (19, .iload_n 2, 1, 0, 0), (20, .ifCond .eq 21, 3, 0, 0), (23, .aload_n 0, 1, 0, 0), (24, .iload_n 1, 1, 0, 0), (25, .invokevirtual 279, 3, 0, 206), (28, .ifCond .eq 15, 3, 0, 0), (31, .iload_n 2, 1, 0, 0), (32, .aload_n 0, 1, 0, 0), (33, .iload_n 1, 1, 0, 0), (34, .iconst 3, 1, 0, 0), (35, .invokevirtual 69, 3, 0, 204), (38, .if_icmp .lt 5, 3, 0, 0), (41, .iconst (-1), 1, 0, 0), (42, .ireturn, 1, 0, 0), (43, .aload_n 0, 1, 0, 0), (44, .iload_n 1, 1, 0, 0), (45, .invokevirtual 75, 3, 0, 205), (48, .ifCond .eq 27, 3, 0, 0), (51, .aload_n 0, 1, 0, 0), (52, .iload_n 1, 1, 0, 0), (53, .bipush 9, 2, 0, 0), (55, .invokevirtual 69, 3, 0, 204), (58, .ifCond .le 17, 3, 0, 0), (61, .iload_n 2, 1, 0, 0), (62, .aload_n 0, 1, 0, 0), (63, .iload_n 1, 1, 0, 0), (64, .bipush 9, 2, 0, 0), (66, .invokevirtual 69, 3, 0, 204), (69, .if_icmp .gt 6, 3, 0, 0), (72, .bipush 8, 2, 0, 0), (74, .ireturn, 1, 0, 0), (75, .iconst (-1), 1, 0, 0), (76, .istore_n 3, 1, 0, 0), (77, .bipush 7, 2, 0, 0), (79, .istore 4, 2, 0, 0), (81, .iload 4, 2, 0, 0), (83, .ifCond .lt 100, 3, 0, 0), (86, .aload_n 0, 1, 0, 0), (87, .iload 4, 2, 0, 0), (89, .bipush 7, 2, 0, 0), (91, .invokevirtual 69, 3, 0, 204), (94, .iload_n 1, 1, 0, 0), (95, .invokestatic 79, 3, 0, 190), (98, .ifCond .eq 64, 3, 0, 0), (101, .aload_n 0, 1, 0, 0), (102, .iload 4, 2, 0, 0), (104, .invokevirtual 75, 3, 0, 205), (107, .ifCond .ne 11, 3, 0, 0), (110, .aload_n 0, 1, 0, 0), (111, .iload_n 1, 1, 0, 0), (112, .invokevirtual 75, 3, 0, 205), (115, .ifCond .eq 47, 3, 0, 0), (118, .aload_n 0, 1, 0, 0), (119, .iload 4, 2, 0, 0), (121, .invokevirtual 279, 3, 0, 206), (124, .ifCond .eq 14, 3, 0, 0), (127, .iload_n 2, 1, 0, 0), (128, .aload_n 0, 1, 0, 0), (129, .iload 4, 2, 0, 0), (131, .iconst 3, 1, 0, 0), (132, .invokevirtual 69, 3, 0, 204), (135, .if_icmp .gt 27, 3, 0, 0), (138, .aload_n 0, 1, 0, 0), (139, .iload 4, 2, 0, 0), (141, .invokevirtual 282, 3, 0, 207), (144, .ifCond .eq 14, 3, 0, 0), (147, .iload_n 2, 1, 0, 0), (148, .aload_n 0, 1, 0, 0), (149, .iload 4, 2, 0, 0), (151, .iconst 2, 1, 0, 0), (152, .invokevirtual 69, 3, 0, 204), (155, .if_icmp .ge 7, 3, 0, 0), (158, .iconst 1, 1, 0, 0), (159, .goto 4, 3, 0, 0), (162, .iconst 0, 1, 0, 0), (163, .istore 5, 2, 0, 0), (165, .iload 5, 2, 0, 0), (167, .ifCond .eq 8, 3, 0, 0), (170, .iload 4, 2, 0, 0), (172, .goto 4, 3, 0, 0), (175, .iload_n 3, 1, 0, 0), (176, .istore_n 3, 1, 0, 0), (177, .iinc 4 (-1), 3, 0, 0), (180, .goto (-99), 3, 0, 0), (183, .iload_n 3, 1, 0, 0), (184, .ireturn, 1, 0, 0)]
/-- SerialGateModel.aheadOf(I)I -/
def mm_M255 : mm_M := (yX11_aheadOf, cX11_aheadOf, 6, (some .int), 11, false, [], [], mm_k255)
theorem mm_d255 : mm_k255.all (fun q => mm_deq (decode cX11_aheadOf q.1) q.2.1 q.2.2.1) = true := by decide +kernel
def mm_k256 : List mm_I := [(0, .iload_n 2, 1, 0, 0), (1, .bipush 8, 2, 0, 0), (3, .if_icmp .eq 11, 3, 0, 0), (6, .aload_n 0, 1, 0, 0), (7, .iload_n 2, 1, 0, 0), (8, .invokevirtual 75, 3, 0, 205), (11, .ifCond .ne 5, 3, 0, 0), (14, .iload_n 1, 1, 0, 0), (15, .ireturn, 1, 0, 0), (16, .aload_n 0, 1, 0, 0), (17, .iload_n 1, 1, 0, 0), (18, .invokevirtual 75, 3, 0, 205), (21, .ifCond .eq 20, 3, 0, 0), (24, .aload_n 0, 1, 0, 0), (25, .iload_n 1, 1, 0, 0), (26, .invokevirtual 298, 3, 0, 247), (29, .aload_n 0, 1, 0, 0), (30, .iload_n 2, 1, 0, 0), (31, .invokevirtual 298, 3, 0, 247), (34, .if_icmp .lt 7, 3, 0, 0), (37, .iload_n 1, 1, 0, 0), (38, .goto 4, 3, 0, 0), (41, .iload_n 2, 1, 0, 0), (42, .ireturn, 1, 0, 0)]
/-- SerialGateModel.victimOf(II)I -/
def mm_M256 : mm_M := (yX11_victimOf, cX11_victimOf, 3, (some .int), 11, false, [], [], mm_k256)
theorem mm_d256 : mm_k256.all (fun q => mm_deq (decode cX11_victimOf q.1) q.2.1 q.2.2.1) = true := by decide +kernel
def mm_k257 : List mm_I := [(0, .iconst 0, 1, 0, 0), (1, .istore_n 1, 1, 0, 0), (2, .iload_n 1, 1, 0, 0), (3, .bipush 8, 2, 0, 0), (5, .if_icmp .ge 36, 3, 0, 0), (8, .aload_n 0, 1, 0, 0), (9, .iload_n 1, 1, 0, 0), (10, .invokevirtual 301, 3, 0, 255), (13, .istore_n 2, 1, 0, 0), (14, .iload_n 2, 1, 0, 0), (15, .iconst (-1), 1, 0, 0), (16, .if_icmp .ne 9, 3, 0, 0), (19, .iinc 1 1, 3, 0, 0), (22, .goto 16, 3, 0, 0), (25, .aload_n 0, 1, 0, 0), (26, .aload_n 0, 1, 0, 0), (27, .iload_n 1, 1, 0, 0), (28, .iload_n 2, 1, 0, 0), (29, .invokevirtual 304, 3, 0, 256), (32, .iconst 3, 1, 0, 0), (33, .invokevirtual 307, 3, 0, 254), (36, .iconst 0, 1, 0, 0), (37, .istore_n 1, 1, 0, 0), (38, .goto (-36), 3, 0, 0), (41, .return_, 1, 0, 0)]
/-- SerialGateModel.areMet()V -/
def mm_M257 : mm_M := (yX11_areMet, cX11_areMet, 3, none, 11, false, [], [], mm_k257)
theorem mm_d257 : mm_k257.all (fun q => mm_deq (decode cX11_areMet q.1) q.2.1 q.2.2.1) = true := by decide +kernel
def mm_k258 : List mm_I := [(0, .iconst (-1), 1, 0, 0), (1, .istore_n 2, 1, 0, 0), (2, .iconst 0, 1, 0, 0), (3, .istore_n 3, 1, 0, 0), (4, .iload_n 3, 1, 0, 0), (5, .bipush 8, 2, 0, 0), (7, .if_icmp .ge 39, 3, 0, 0), (10, .iload_n 1, 1, 0, 0), (11, .iload_n 3, 1, 0, 0), (12, .invokestatic 79, 3, 0, 190), (15, .ifCond .eq 25, 3, 0, 0), (18, .iload_n 2, 1, 0, 0), (19, .iconst (-1), 1, 0, 0), (20, .if_icmp .eq 18, 3, 0, 0), (23, .aload_n 0, 1, 0, 0), (24, .iload_n 3, 1, 0, 0), (25, .iconst 3, 1, 0, 0), (26, .invokevirtual 69, 3, 0, 204), (29, .aload_n 0, 1, 0, 0), (30, .iload_n 2, 1, 0, 0), (31, .iconst 3, 1, 0, 0), (32, .invokevirtual 69, 3, 0, 204), (35, .if_icmp .ge 5, 3, 0, 0), (38, .iload_n 3, 1, 0, 0), (39, .istore_n 2, 1, 0, 0), (40, .iinc 3 1, 3, 0, 0), (43, .goto (-39), 3, 0, 0), (46, .iload_n 2, 1, 0, 0), (47, .ireturn, 1, 0, 0)]
/-- SerialGateModel.leastEnded(I)I -/
def mm_M258 : mm_M := (yX11_leastEnded, cX11_leastEnded, 4, (some .int), 11, false, [], [], mm_k258)
theorem mm_d258 : mm_k258.all (fun q => mm_deq (decode cX11_leastEnded q.1) q.2.1 q.2.2.1) = true := by decide +kernel
def mm_k259 : List mm_I := [(0, .aload_n 0, 1, 0, 0), (1, .iload_n 1, 1, 0, 0), (2, .iconst 3, 1, 0, 0), (3, .invokevirtual 69, 3, 0, 204), (6, .istore_n 3, 1, 0, 0), (7, .aload_n 0, 1, 0, 0), (8, .iload_n 1, 1, 0, 0), (9, .iload_n 2, 1, 0, 0), (10, .invokevirtual 285, 3, 0, 249), (13, .iconst 0, 1, 0, 0), (14, .istore 4, 2, 0, 0), (16, .iload 4, 2, 0, 0), (18, .bipush 8, 2, 0, 0), (20, .if_icmp .ge 100, 3, 0, 0), (23, .aload_n 0, 1, 0, 0), (24, .iload 4, 2, 0, 0), (26, .bipush 8, 2, 0, 0), (28, .invokevirtual 69, 3, 0, 204), (31, .istore 5, 2, 0, 0), (33, .aload_n 0, 1, 0, 0), (34, .iload 4, 2, 0, 0), (36, .bipush 7, 2, 0, 0), (38, .invokevirtual 69, 3, 0, 204), (41, .iload_n 1, 1, 0, 0), (42, .invokestatic 79, 3, 0, 190), (45, .ifCond .eq 30, 3, 0, 0), (48, .aload_n 0, 1, 0, 0), (49, .getfield 13, 3, 11, 1), (52, .iload 4, 2, 0, 0), (54, .bipush 8, 2, 0, 0), (56, .invokestatic 66, 3, 0, 203), (59, .iload 5, 2, 0, 0), (61, .ifCond .ne 7, 3, 0, 0), (64, .iload_n 3, 1, 0, 0), (65, .goto 9, 3, 0, 0), (68, .iload 5, 2, 0, 0), (70, .iload_n 3, 1, 0, 0), (71, .invokestatic 149, 3, 0, 345), (74, .iastore, 1, 0, 0), (75, .aload_n 0, 1, 0, 0), (76, .iload_n 1, 1, 0, 0), (77, .bipush 7, 2, 0, 0), (79, .invokevirtual 69, 3, 0, 204), (82, .iload 4, 2, 0, 0), (84, .invokestatic 79, 3, 0, 190), (87, .ifCond .eq 27, 3, 0, 0), (90, .aload_n 0, 1, 0, 0), (91, .getfield 13, 3, 11, 1), (94, .iload 4, 2, 0, 0), (96, .bipush 9, 2, 0, 0), (98, .invokestatic 66, 3, 0, 203), (101, .aload_n 0, 1, 0, 0), (102, .iload 4, 2, 0, 0), (104, .bipush 9, 2, 0, 0), (106, .invokevirtual 69, 3, 0, 204), (109, .iload_n 3, 1, 0, 0), (110, .invokestatic 276, 3, 0, 344), (113, .iastore, 1, 0, 0), (114, .iinc 4 1, 3, 0, 0), (117, .goto (-101), 3, 0, 0), (120, .aload_n 0, 1, 0, 0), (121, .iload_n 1, 1, 0, 0), (122, .invokevirtual 288, 3, 0, 253), (125, .return_, 1, 0, 0)]
/-- SerialGateModel.leaves(II)V -/
def mm_M259 : mm_M := (yX11_leaves, cX11_leaves, 6, none, 11, false, [], [], mm_k259)
theorem mm_d259 : mm_k259.all (fun q => mm_deq (decode cX11_leaves q.1) q.2.1 q.2.2.1) = true := by decide +kernel
def mm_k260 : List mm_I := [(0, .aload_n 0, 1, 0, 0), (1, .iload_n 1, 1, 0, 0), (2, .iconst 3, 1, 0, 0), (3, .invokevirtual 69, 3, 0, 204), (6, .istore_n 2, 1, 0, 0), (7, .aload_n 0, 1, 0, 0), (8, .iload_n 1, 1, 0, 0), (9, .invokevirtual 295, 3, 0, 251), (12, .istore_n 3, 1, 0, 0), (13, .iconst 0, 1, 0, 0), (14, .istore 4, 2, 0, 0), (16, .iload 4, 2, 0, 0), (18, .bipush 10, 2, 0, 0), (20, .if_icmp .ge 129, 3, 0, 0), (23, .aload_n 0, 1, 0, 0), (24, .iload_n 1, 1, 0, 0), (25, .iconst 5, 1, 0, 0), (26, .invokevirtual 69, 3, 0, 204), (29, .iload 4, 2, 0, 0), (31, .invokestatic 79, 3, 0, 190), (34, .ifCond .eq 25, 3, 0, 0), (37, .aload_n 0, 1, 0, 0), (38, .getfield 13, 3, 11, 1), (41, .iload 4, 2, 0, 0), (43, .iconst 1, 1, 0, 0), (44, .invokestatic 59, 3, 0, 199), (47, .aload_n 0, 1, 0, 0), (48, .iload 4, 2, 0, 0), (50, .iconst 1, 1, 0, 0), (51, .invokevirtual 146, 3, 0, 200), (54, .iload_n 2, 1, 0, 0), (55, .invokestatic 276, 3, 0, 344), (58, .iastore, 1, 0, 0), (59, .aload_n 0, 1, 0, 0), (60, .iload_n 1, 1, 0, 0), (61, .bipush 6, 2, 0, 0), (63, .invokevirtual 69, 3, 0, 204), (66, .iload 4, 2, 0, 0), (68, .invokestatic 79, 3, 0, 190), (71, .ifCond .ne 6, 3, 0, 0), (74, .goto 69, 3, 0, 0), (77, .aload_n 0, 1, 0, 0), (78, .getfield 13, 3, 11, 1), (81, .iload 4, 2, 0, 0), (83, .iconst 2, 1, 0, 0), (84, .invokestatic 59, 3, 0, 199), (87, .aload_n 0, 1, 0, 0), (88, .iload 4, 2, 0, 0), (90, .iconst 2, 1, 0, 0), (91, .invokevirtual 146, 3, 0, 200), (94, .iload_n 2, 1, 0, 0), (95, .invokestatic 276, 3, 0, 344), (98, .iastore, 1, 0, 0), (99, .aload_n 0, 1, 0, 0), (100, .iload 4, 2, 0, 0), (102, .iconst 3, 1, 0, 0), (103, .invokevirtual 146, 3, 0, 200), (106, .istore 5, 2, 0, 0), (108, .iload_n 3, 1, 0, 0), (109, .ifCond .le 34, 3, 0, 0), (112, .iload_n 3, 1, 0, 0), (113, .iload_n 2, 1, 0, 0), (114, .if_icmp .ge 29, 3, 0, 0), (117, .aload_n 0, 1, 0, 0), (118, .getfield 13, 3, 11, 1), (121, .iload 4, 2, 0, 0), (123, .iconst 3, 1, 0, 0), (124, .invokestatic 59, 3, 0, 199), (127, .iload 5, 2, 0, 0), (129, .ifCond .ne 7, 3, 0, 0), (132, .iload_n 3, 1, 0, 0), (133, .goto 9, 3, 0, 0), (136, .iload 5, 2, 0, 0), (138, .iload_n 3, 1, 0, 0), (139, .invokestatic 149, 3, 0, 345), (142, .iastore, 1, 0, 0), (143, .iinc 4 1, 3, 0, 0), (146, .goto (-130), 3, 0, 0), (149, .aload_n 0, 1, 0, 0), (150, .iload_n 1, 1, 0, 0), (151, .iconst 5, 1, 0, 0), (152, .invokevirtual 310, 3, 0, 259), (155, .return_, 1, 0, 0)]
/-- SerialGateModel.isSummed(I)V -/
def mm_M260 : mm_M := (yX11_isSummed, cX11_isSummed, 6, none, 11, false, [], [], mm_k260)
theorem mm_d260 : mm_k260.all (fun q => mm_deq (decode cX11_isSummed q.1) q.2.1 q.2.2.1) = true := by decide +kernel
def mm_k261 : List mm_I := [(0, .aload_n 0, 1, 0, 0), (1, .iconst 2, 1, 0, 0), (2, .invokevirtual 313, 3, 0, 208), (5, .istore_n 1, 1, 0, 0), (6, .iconst 0, 1, 0, 0), (7, .istore_n 2, 1, 0, 0), (8, .iload_n 2, 1, 0, 0), (9, .bipush 8, 2, 0, 0), (11, .if_icmp .ge 54, 3, 0, 0), (14, .iconst 0, 1, 0, 0), (15, .istore_n 3, 1, 0, 0), (16, .iload_n 3, 1, 0, 0), (17, .bipush 8, 2, 0, 0), (19, .if_icmp .ge 40, 3, 0, 0), (22, .aload_n 0, 1, 0, 0), (23, .iload_n 3, 1, 0, 0), (24, .invokevirtual 75, 3, 0, 205), (27, .ifCond .eq 26, 3, 0, 0), (30, .aload_n 0, 1, 0, 0), (31, .iload_n 2, 1, 0, 0), (32, .iconst 3, 1, 0, 0), (33, .invokevirtual 69, 3, 0, 204), (36, .aload_n 0, 1, 0, 0), (37, .iload_n 3, 1, 0, 0), (38, .iconst 2, 1, 0, 0), (39, .invokevirtual 69, 3, 0, 204), (42, .if_icmp .lt 11, 3, 0, 0), (45, .iload_n 1, 1, 0, 0), (46, .iconst 1, 1, 0, 0), (47, .iload_n 2, 1, 0, 0), (48, .ishl, 1, 0, 0), (49, .iconst (-1), 1, 0, 0), (50, .ixor, 1, 0, 0), (51, .iand, 1, 0, 0), (52, .istore_n 1, 1, 0, 0), (53, .iinc 3 1, 3, 0, 0), (56, .goto (-40), 3, 0, 0), (59, .iinc 2 1, 3, 0, 0), (62, .goto (-54), 3, 0, 0), (65, .iload_n 1, 1, 0, 0), (66, .ifCond .eq 27, 3, 0, 0), (69, .aload_n 0, 1, 0, 0), (70, .iload_n 1, 1, 0, 0), (71, .invokevirtual 316, 3, 0, 258), (74, .istore_n 2, 1, 0, 0), (75, .iload_n 1, 1, 0, 0), (76, .iconst 1, 1, 0, 0), (77, .iload_n 2, 1, 0, 0), (78, .ishl, 1, 0, 0), (79, .iconst (-1), 1, 0, 0), (80, .ixor, 1, 0, 0), (81, .iand, 1, 0, 0), (82, .istore_n 1, 1, 0, 0), (83, .aload_n 0, 1, 0, 0), (84, .iload_n 2, 1, 0, 0), (85, .bipush 6, 2, 0, 0), (87, .invokevirtual 310, 3, 0, 259), (90, .goto (-25), 3, 0, 0), (93, .aload_n 0, 1, 0, 0), (94, .iconst 2, 1, 0, 0), (95, .invokevirtual 313, 3, 0, 208), (98, .invokestatic 258, 3, 0, 343), (101, .aload_n 0, 1, 0, 0), (102, .getfield 13, 3, 11, 1), (105, .iconst 4, 1, 0, 0), (106, .iaload, 1, 0, 0), (107, .if_icmp .le 19, 3, 0, 0), (110, .aload_n 0, 1, 0, 0), (111, .aload_n 0, 1, 0, 0), (112, .aload_n 0, 1, 0, 0), (113, .iconst 2, 1, 0, 0), (114, .invokevirtual 313, 3, 0, 208), (117, .invokevirtual 316, 3, 0, 258), (120, .invokevirtual 319, 3, 0, 260), (123, .goto (-30), 3, 0, 0), (126, .return_, 1, 0, 0)]
/-- SerialGateModel.isTidy()V -/
def mm_M261 : mm_M := (yX11_isTidy, cX11_isTidy, 4, none, 11, false, [], [], mm_k261)
theorem mm_d261 : mm_k261.all (fun q => mm_deq (decode cX11_isTidy q.1) q.2.1 q.2.2.1) = true := by decide +kernel
def mm_k262 : List mm_I := [(0, .aload_n 0, 1, 0, 0), (1, .iconst 0, 1, 0, 0), (2, .invokevirtual 313, 3, 0, 208), (5, .invokestatic 322, 3, 0, 269), (8, .istore_n 2, 1, 0, 0), (9, .aload_n 0, 1, 0, 0), (10, .getfield 13, 3, 11, 1), (13, .iconst 3, 1, 0, 0), (14, .dup2, 1, 0, 0), (15, .iaload, 1, 0, 0), (16, .iconst 1, 1, 0, 0), (17, .iadd, 1, 0, 0), (18, .iastore, 1, 0, 0), (19, .aload_n 0, 1, 0, 0), (20, .getfield 13, 3, 11, 1), (23, .iload_n 2, 1, 0, 0), (24, .iconst 0, 1, 0, 0), (25, .invokestatic 66, 3, 0, 203), (28, .iconst 1, 1, 0, 0), (29, .iastore, 1, 0, 0), (30, .aload_n 0, 1, 0, 0), (31, .getfield 13, 3, 11, 1), (34, .iload_n 2, 1, 0, 0), (35, .iconst 1, 1, 0, 0), (36, .invokestatic 66, 3, 0, 203), (39, .iload_n 1, 1, 0, 0), (40, .iastore, 1, 0, 0), (41, .aload_n 0, 1, 0, 0), (42, .getfield 13, 3, 11, 1), (45, .iload_n 2, 1, 0, 0), (46, .iconst 2, 1, 0, 0), (47, .invokestatic 66, 3, 0, 203), (50, .aload_n 0, 1, 0, 0), (51, .getfield 13, 3, 11, 1), (54, .iconst 3, 1, 0, 0), (55, .iaload, 1, 0, 0), (56, .iastore, 1, 0, 0), (57, .iconst 0, 1, 0, 0), (58, .istore_n 3, 1, 0, 0), (59, .iload_n 3, 1, 0, 0), (60, .bipush 10, 2, 0, 0), (62, .if_icmp .ge 28, 3, 0, 0), (65, .aload_n 0, 1, 0, 0), (66, .getfield 13, 3, 11, 1), (69, .iload_n 2, 1, 0, 0), (70, .bipush 11, 2, 0, 0), (72, .iload_n 3, 1, 0, 0), (73, .iadd, 1, 0, 0), (74, .invokestatic 66, 3, 0, 203), (77, .aload_n 0, 1, 0, 0), (78, .iload_n 3, 1, 0, 0), (79, .iconst 0, 1, 0, 0), (80, .invokevirtual 146, 3, 0, 200), (83, .iastore, 1, 0, 0), (84, .iinc 3 1, 3, 0, 0), (87, .goto (-28), 3, 0, 0), (90, .iload_n 2, 1, 0, 0), (91, .ireturn, 1, 0, 0)]
/-- SerialGateModel.begins(I)I -/
def mm_M262 : mm_M := (yX11_begins, cX11_begins, 4, (some .int), 11, false, [], [], mm_k262)
theorem mm_d262 : mm_k262.all (fun q => mm_deq (decode cX11_begins q.1) q.2.1 q.2.2.1) = true := by decide +kernel
def mm_k263 : List mm_I := [(0, .aload_n 0, 1, 0, 0), (1, .getfield 13, 3, 11, 1), (4, .iload_n 1, 1, 0, 0), (5, .iconst 4, 1, 0, 0), (6, .invokestatic 66, 3, 0, 203), (9, .dup2, 1, 0, 0), (10, .iaload, 1, 0, 0), (11, .iconst 1, 1, 0, 0), (12, .iload_n 2, 1, 0, 0), (13, .ishl, 1, 0, 0), (14, .ior, 1, 0, 0), (15, .iastore, 1, 0, 0), (16, .aload_n 0, 1, 0, 0), (17, .iload_n 1, 1, 0, 0), (18, .bipush 6, 2, 0, 0), (20, .invokevirtual 69, 3, 0, 204), (23, .iload_n 2, 1, 0, 0), (24, .invokestatic 79, 3, 0, 190), (27, .ifCond .ne 11, 3, 0, 0), (30, .aload_n 0, 1, 0, 0), (31, .iload_n 1, 1, 0, 0), (32, .invokevirtual 325, 3, 0, 252), (35, .ifCond .eq 4, 3, 0, 0), (38, .return_, 1, 0, 0), (39, .aload_n 0, 1, 0, 0), (40, .getfield 13, 3, 11, 1), (43, .iload_n 1, 1, 0, 0), (44, .iconst 5, 1, 0, 0), (45, .invokestatic 66, 3, 0, 203), (48, .dup2, 1, 0, 0), (49, .iaload, 1, 0, 0), (50, .iconst 1, 1, 0, 0), (51, .iload_n 2, 1, 0, 0), (52, .ishl, 1, 0, 0), (53, .ior, 1, 0, 0), (54, .iastore, 1, 0, 0), (55, .iconst 0, 1, 0, 0), (56, .istore_n 3, 1, 0, 0), (57, .iload_n 3, 1, 0, 0), (58, .bipush 8, 2, 0, 0), (60, .if_icmp .ge 49, 3, 0, 0), (63, .aload_n 0, 1, 0, 0), (64, .iload_n 1, 1, 0, 0), (65, .iload_n 3, 1, 0, 0), (66, .invokevirtual 328, 3, 0, 250), (69, .ifCond .eq 34, 3, 0, 0), (72, .aload_n 0, 1, 0, 0), (73, .iload_n 3, 1, 0, 0), (74, .bipush 6, 2, 0, 0), (76, .invokevirtual 69, 3, 0, 204), (79, .iload_n 2, 1, 0, 0), (80, .invokestatic 79, 3, 0, 190), (83, .ifCond .eq 20, 3, 0, 0), (86, .aload_n 0, 1, 0, 0), (87, .getfield 13, 3, 11, 1), (90, .iload_n 1, 1, 0, 0), (91, .bipush 7, 2, 0, 0), (93, .invokestatic 66, 3, 0, 203), (96, .dup2, 1, 0, 0), (97, .iaload, 1, 0, 0), (98, .iconst 1, 1, 0, 0), (99, .iload_n 3, 1, 0, 0), (100, .ishl, 1, 0, 0), (101, .ior, 1, 0, 0), (102, .iastore, 1, 0, 0), (103, .iinc 3 1, 3, 0, 0), (106, .goto (-49), 3, 0, 0), (109, .aload_n 0, 1, 0, 0), (110, .iload_n 2, 1, 0, 0), (111, .iconst 2, 1, 0, 0), (112, .invokevirtual 146, 3, 0, 200), (115, .aload_n 0, 1, 0, 0), (116, .iload_n 1, 1, 0, 0), (117, .iconst 2, 1, 0, 0), (118, .invokevirtual 69, 3, 0, 204), (121, .if_icmp .le 57, 3, 0, 0), (124, .aload_n 0, 1, 0, 0), (125, .getfield 13, 3, 11, 1), (128, .iload_n 1, 1, 0, 0), (129, .bipush 8, 2, 0, 0), (131, .invokestatic 66, 3, 0, 203), (134, .aload_n 0, 1, 0, 0), (135, .iload_n 1, 1, 0, 0), (136, .iconst 2, 1, 0, 0), (137, .invokevirtual 69, 3, 0, 204), (140, .iconst 1, 1, 0, 0), (141, .iadd, 1, 0, 0), (142, .iastore, 1, 0, 0), (143, .aload_n 0, 1, 0, 0), (144, .iload_n 2, 1, 0, 0), (145, .iconst 3, 1, 0, 0), (146, .invokevirtual 146, 3, 0, 200), (149, .istore_n 3, 1, 0, 0), (150, .iload_n 3, 1, 0, 0), (151, .ifCond .le 27, 3, 0, 0), (154, .aload_n 0, 1, 0, 0), (155, .iload_n 1, 1, 0, 0), (156, .invokevirtual 282, 3, 0, 207), (159, .ifCond .eq 13, 3, 0, 0), (162, .iload_n 3, 1, 0, 0), (163, .aload_n 0, 1, 0, 0), (164, .iload_n 1, 1, 0, 0), (165, .iconst 2, 1, 0, 0), (166, .invokevirtual 69, 3, 0, 204), (169, .if_icmp .ge 9, 3, 0, 0), (172, .aload_n 0, 1, 0, 0), (173, .iload_n 1, 1, 0, 0), (174, .iconst 1, 1, 0, 0), (175, .invokevirtual 307, 3, 0, 254), (178, .aload_n 0, 1, 0, 0), (179, .invokevirtual 331, 3, 0, 257), (182, .aload_n 0, 1, 0, 0), (183, .invokevirtual 252, 3, 0, 261), (186, .return_, 1, 0, 0)]
/-- SerialGateModel.reads(II)V -/
def mm_M263 : mm_M := (yX11_reads, cX11_reads, 4, none, 11, false, [], [], mm_k263)
theorem mm_d263 : mm_k263.all (fun q => mm_deq (decode cX11_reads q.1) q.2.1 q.2.2.1) = true := by decide +kernel
def mm_k264 : List mm_I := [(0, .aload_n 0, 1, 0, 0), (1, .iload_n 2, 1, 0, 0), (2, .invokevirtual 142, 3, 0, 210), (5, .istore_n 3, 1, 0, 0), (6, .iload_n 3, 1, 0, 0), (7, .iconst (-1), 1, 0, 0), (8, .if_icmp .eq 12, 3, 0, 0), (11, .iload_n 3, 1, 0, 0), (12, .iload_n 1, 1, 0, 0), (13, .if_icmp .eq 7, 3, 0, 0), (16, .iconst 1, 1, 0, 0), (17, .goto 4, 3, 0, 0), (20, .iconst 0, 1, 0, 0), (21, .ireturn, 1, 0, 0)]
/-- SerialGateModel.hasToWait(II)Z -/
def mm_M264 : mm_M := (yX11_hasToWait, cX11_hasToWait, 4, (some .boolean), 11, false, [], [], mm_k264)
theorem mm_d264 : mm_k264.all (fun q => mm_deq (decode cX11_hasToWait q.1) q.2.1 q.2.2.1) = true := by decide +kernel
def mm_k265 : List mm_I := [(0, .aload_n 0, 1, 0, 0), (1, .iload_n 2, 1, 0, 0), (2, .iconst 0, 1, 0, 0), (3, .invokevirtual 146, 3, 0, 200), (6, .aload_n 0, 1, 0, 0), (7, .iload_n 1, 1, 0, 0), (8, .bipush 11, 2, 0, 0), (10, .iload_n 2, 1, 0, 0), (11, .iadd, 1, 0, 0), (12, .invokevirtual 69, 3, 0, 204), (15, .if_icmp .ne 118, 3, 0, 0), (18, .aload_n 0, 1, 0, 0), (19, .getfield 13, 3, 11, 1), (22, .iload_n 1, 1, 0, 0), (23, .bipush 6, 2, 0, 0), (25, .invokestatic 66, 3, 0, 203), (28, .dup2, 1, 0, 0), (29, .iaload, 1, 0, 0), (30, .iconst 1, 1, 0, 0), (31, .iload_n 2, 1, 0, 0), (32, .ishl, 1, 0, 0), (33, .ior, 1, 0, 0), (34, .iastore, 1, 0, 0), (35, .iconst 0, 1, 0, 0), (36, .istore_n 3, 1, 0, 0), (37, .iload_n 3, 1, 0, 0), (38, .bipush 8, 2, 0, 0), (40, .if_icmp .ge 48, 3, 0, 0), (43, .aload_n 0, 1, 0, 0), (44, .iload_n 1, 1, 0, 0), (45, .iload_n 3, 1, 0, 0), (46, .invokevirtual 328, 3, 0, 250), (49, .ifCond .eq 33, 3, 0, 0), (52, .aload_n 0, 1, 0, 0), (53, .iload_n 3, 1, 0, 0), (54, .iconst 5, 1, 0, 0), (55, .invokevirtual 69, 3, 0, 204), (58, .iload_n 2, 1, 0, 0), (59, .invokestatic 79, 3, 0, 190), (62, .ifCond .eq 20, 3, 0, 0), (65, .aload_n 0, 1, 0, 0), (66, .getfield 13, 3, 11, 1), (69, .iload_n 3, 1, 0, 0), (70, .bipush 7, 2, 0, 0), (72, .invokestatic 66, 3, 0, 203), (75, .dup2, 1, 0, 0), (76, .iaload, 1, 0, 0), (77, .iconst 1, 1, 0, 0), (78, .iload_n 1, 1, 0, 0), (79, .ishl, 1, 0, 0), (80, .ior, 1, 0, 0), (81, .iastore, 1, 0, 0), (82, .iinc 3 1, 3, 0, 0), (85, .goto (-48), 3, 0, 0), (88, .aload_n 0, 1, 0, 0), (89, .iload_n 2, 1, 0, 0), (90, .iconst 1, 1, 0, 0), (91, .invokevirtual 146, 3, 0, 200), (94, .aload_n 0, 1, 0, 0), (95, .iload_n 1, 1, 0, 0), (96, .iconst 2, 1, 0, 0), (97, .invokevirtual 69, 3, 0, 204), (100, .if_icmp .le 39, 3, 0, 0), (103, .aload_n 0, 1, 0, 0), (104, .getfield 13, 3, 11, 1), (107, .iload_n 1, 1, 0, 0), (108, .bipush 9, 2, 0, 0), (110, .invokestatic 66, 3, 0, 203), (113, .aload_n 0, 1, 0, 0), (114, .iload_n 1, 1, 0, 0), (115, .bipush 9, 2, 0, 0), (117, .invokevirtual 69, 3, 0, 204), (120, .aload_n 0, 1, 0, 0), (121, .iload_n 2, 1, 0, 0), (122, .iconst 1, 1, 0, 0), (123, .invokevirtual 146, 3, 0, 200), (126, .invokestatic 276, 3, 0, 344), (129, .iastore, 1, 0, 0), (130, .goto 9, 3, 0, 0), (133, .aload_n 0, 1, 0, 0), (134, .iload_n 1, 1, 0, 0), (135, .iconst 2, 1, 0, 0), (136, .invokevirtual 307, 3, 0, 254), (139, .aload_n 0, 1, 0, 0), (140, .invokevirtual 331, 3, 0, 257), (143, .aload_n 0, 1, 0, 0), (144, .invokevirtual 252, 3, 0, 261), (147, .return_, 1, 0, 0)]
/-- SerialGateModel.writes(II)V -/
def mm_M265 : mm_M := (yX11_writes, cX11_writes, 4, none, 11, false, [], [], mm_k265)
theorem mm_d265 : mm_k265.all (fun q => mm_deq (decode cX11_writes q.1) q.2.1 q.2.2.1) = true := by decide +kernel
def mm_k266 : List mm_I := [(0, .sipush 242, 3, 0, 0), (3, .bipush 24, 2, 0, 0), (5, .iload_n 1, 1, 0, 0), (6, .imul, 1, 0, 0), (7, .iadd, 1, 0, 0), (8, .ireturn, 1, 0, 0)]
/-- SerialGateModel.storyAt(I)I -/
def mm_M266 : mm_M := (yX11_storyAt, cX11_storyAt, 2, (some .int), 11, false, [], [], mm_k266)
theorem mm_d266 : mm_k266.all (fun q => mm_deq (decode cX11_storyAt q.1) q.2.1 q.2.2.1) = true := by decide +kernel
def mm_k267 : List mm_I := [(0, .aload_n 0, 1, 0, 0), (1, .getfield 13, 3, 11, 1), (4, .bipush 7, 2, 0, 0), (6, .iaload, 1, 0, 0), (7, .bipush 12, 2, 0, 0), (9, .if_icmp .ne 44, 3, 0, 0), (12, .iconst 0, 1, 0, 0), (13, .istore_n 2, 1, 0, 0), (14, .iload_n 2, 1, 0, 0), (15, .sipush 264, 3, 0, 0), (18, .if_icmp .ge 32, 3, 0, 0), (21, .aload_n 0, 1, 0, 0), (22, .getfield 13, 3, 11, 1), (25, .sipush 242, 3, 0, 0), (28, .iload_n 2, 1, 0, 0), (29, .iadd, 1, 0, 0), (30, .aload_n 0, 1, 0, 0), (31, .getfield 13, 3, 11, 1), (34, .sipush 242, 3, 0, 0), (37, .iload_n 2, 1, 0, 0), (38, .iadd, 1, 0, 0), (39, .bipush 24, 2, 0, 0), (41, .iadd, 1, 0, 0), (42, .iaload, 1, 0, 0), (43, .iastore, 1, 0, 0), (44, .iinc 2 1, 3, 0, 0), (47, .goto (-33), 3, 0, 0), (50, .goto 14, 3, 0, 0), (53, .aload_n 0, 1, 0, 0), (54, .getfield 13, 3, 11, 1), (57, .bipush 7, 2, 0, 0), (59, .dup2, 1, 0, 0), (60, .iaload, 1, 0, 0), (61, .iconst 1, 1, 0, 0), (62, .iadd, 1, 0, 0), (63, .iastore, 1, 0, 0), (64, .aload_n 0, 1, 0, 0), (65, .aload_n 0, 1, 0, 0), (66, .getfield 13, 3, 11, 1), (69, .bipush 7, 2, 0, 0), (71, .iaload, 1, 0, 0), (72, .iconst 1, 1, 0, 0), (73, .isub, 1, 0, 0), (74, .invokevirtual 334, 3, 0, 266), (77, .istore_n 2, 1, 0, 0), (78, .aload_n 0, 1, 0, 0), (79, .getfield 13, 3, 11, 1), (82, .iload_n 2, 1, 0, 0), (83, .iconst 0, 1, 0, 0), (84, .iadd, 1, 0, 0), (85, .aload_n 0, 1, 0, 0), (86, .iload_n 1, 1, 0, 0), (87, .iconst 1, 1, 0, 0), (88, .invokevirtual 69, 3, 0, 204), (91, .iastore, 1, 0, 0), (92, .aload_n 0, 1, 0, 0), (93, .getfield 13, 3, 11, 1), (96, .iload_n 2, 1, 0, 0), (97, .iconst 1, 1, 0, 0), (98, .iadd, 1, 0, 0), (99, .aload_n 0, 1, 0, 0), (100, .iload_n 1, 1, 0, 0), (101, .iconst 3, 1, 0, 0), (102, .invokevirtual 69, 3, 0, 204), (105, .iastore, 1, 0, 0), (106, .aload_n 0, 1, 0, 0), (107, .getfield 13, 3, 11, 1), (110, .iload_n 2, 1, 0, 0), (111, .iconst 2, 1, 0, 0), (112, .iadd, 1, 0, 0), (113, .aload_n 0, 1, 0, 0), (114, .iload_n 1, 1, 0, 0), (115, .iconst 4, 1, 0, 0), (116, .invokevirtual 69, 3, 0, 204), (119, .iastore, 1, 0, 0), (120, .aload_n 0, 1, 0, 0), (121, .getfield 13, 3, 11, 1), (124, .iload_n 2, 1, 0, 0), (125, .iconst 3, 1, 0, 0), (126, .iadd, 1, 0, 0), (127, .aload_n 0, 1, 0, 0), (128, .iload_n 1, 1, 0, 0), (129, .bipush 6, 2, 0, 0), (131, .invokevirtual 69, 3, 0, 204), (134, .iastore, 1, 0, 0), (135, .iconst 0, 1, 0, 0), (136, .istore_n 3, 1, 0, 0), (137, .iload_n 3, 1, 0, 0), (138, .bipush 10, 2, 0, 0), (140, .if_icmp .ge 45, 3, 0, 0), (143, .aload_n 0, 1, 0, 0), (144, .getfield 13, 3, 11, 1), (147, .iload_n 2, 1, 0, 0), (148, .iconst 4, 1, 0, 0), (149, .iadd, 1, 0, 0), (150, .iload_n 3, 1, 0, 0), (151, .iadd, 1, 0, 0), (152, .aload_n 0, 1, 0, 0), (153, .iload_n 1, 1, 0, 0), (154, .bipush 11, 2, 0, 0), (156, .iload_n 3, 1, 0, 0), (157, .iadd, 1, 0, 0), (158, .invokevirtual 69, 3, 0, 204), (161, .iastore, 1, 0, 0), (162, .aload_n 0, 1, 0, 0), (163, .getfield 13, 3, 11, 1), (166, .iload_n 2, 1, 0, 0), (167, .bipush 14, 2, 0, 0), (169, .iadd, 1, 0, 0), (170, .iload_n 3, 1, 0, 0), (171, .iadd, 1, 0, 0), (172, .aload_n 0, 1, 0, 0), (173, .iload_n 3, 1, 0, 0), (174, .iconst 0, 1, 0, 0), (175, .invokevirtual 146, 3, 0, 200), (178, .iastore, 1, 0, 0), (179, .iinc 3 1, 3, 0, 0), (182, .goto (-45), 3, 0, 0), (185, .return_, 1, 0, 0)]
/-- SerialGateModel.isHistory(I)V -/
def mm_M267 : mm_M := (yX11_isHistory, cX11_isHistory, 4, none, 11, false, [], [], mm_k267)
theorem mm_d267 : mm_k267.all (fun q => mm_deq (decode cX11_isHistory q.1) q.2.1 q.2.2.1) = true := by decide +kernel
def mm_k268 : List mm_I := [(0, .aload_n 0, 1, 0, 0), (1, .iload_n 1, 1, 0, 0), (2, .iconst 1, 1, 0, 0), (3, .invokevirtual 69, 3, 0, 204), (6, .istore_n 2, 1, 0, 0), (7, .aload_n 0, 1, 0, 0), (8, .iload_n 1, 1, 0, 0), (9, .invokevirtual 337, 3, 0, 248), (12, .istore_n 3, 1, 0, 0), (13, .aload_n 0, 1, 0, 0), (14, .getfield 13, 3, 11, 1), (17, .iconst 3, 1, 0, 0), (18, .dup2, 1, 0, 0), (19, .iaload, 1, 0, 0), (20, .iconst 1, 1, 0, 0), (21, .iadd, 1, 0, 0), (22, .iastore, 1, 0, 0), (23, .aload_n 0, 1, 0, 0), (24, .getfield 13, 3, 11, 1), (27, .iconst 3, 1, 0, 0), (28, .iaload, 1, 0, 0), (29, .istore 4, 2, 0, 0), (31, .aload_n 0, 1, 0, 0), (32, .getfield 13, 3, 11, 1), (35, .iload_n 1, 1, 0, 0), (36, .iconst 3, 1, 0, 0), (37, .invokestatic 66, 3, 0, 203), (40, .iload 4, 2, 0, 0), (42, .iastore, 1, 0, 0), (43, .aload_n 0, 1, 0, 0), (44, .getfield 13, 3, 11, 1), (47, .iload_n 1, 1, 0, 0), (48, .iconst 0, 1, 0, 0), (49, .invokestatic 66, 3, 0, 203), (52, .iconst 2, 1, 0, 0), (53, .iastore, 1, 0, 0), (54, .iconst 0, 1, 0, 0), (55, .istore 5, 2, 0, 0), (57, .iload 5, 2, 0, 0), (59, .bipush 10, 2, 0, 0), (61, .if_icmp .ge 50, 3, 0, 0), (64, .aload_n 0, 1, 0, 0), (65, .iload_n 1, 1, 0, 0), (66, .bipush 6, 2, 0, 0), (68, .invokevirtual 69, 3, 0, 204), (71, .iload 5, 2, 0, 0), (73, .invokestatic 79, 3, 0, 190), (76, .ifCond .eq 29, 3, 0, 0), (79, .aload_n 0, 1, 0, 0), (80, .getfield 13, 3, 11, 1), (83, .iload 5, 2, 0, 0), (85, .iconst 0, 1, 0, 0), (86, .invokestatic 59, 3, 0, 199), (89, .sipush 9999, 3, 0, 0), (92, .aload_n 0, 1, 0, 0), (93, .iload 5, 2, 0, 0), (95, .iconst 0, 1, 0, 0), (96, .invokevirtual 146, 3, 0, 200), (99, .iconst 1, 1, 0, 0), (100, .iadd, 1, 0, 0), (101, .invokestatic 149, 3, 0, 345), (104, .iastore, 1, 0, 0), (105, .iinc 5 1, 3, 0, 0), (108, .goto (-51), 3, 0, 0), (111, .aload_n 0, 1, 0, 0), (112, .getfield 13, 3, 11, 1), (115, .iload_n 2, 1, 0, 0), (116, .iconst 4, 1, 0, 0), (117, .invokestatic 63, 3, 0, 201), (120, .dup2, 1, 0, 0), (121, .iaload, 1, 0, 0), (122, .iconst 1, 1, 0, 0), (123, .iadd, 1, 0, 0), (124, .iastore, 1, 0, 0), (125, .aload_n 0, 1, 0, 0), (126, .getfield 13, 3, 11, 1), (129, .iload_n 2, 1, 0, 0), (130, .iconst 3, 1, 0, 0), (131, .invokestatic 63, 3, 0, 201), (134, .iconst 0, 1, 0, 0), (135, .iastore, 1, 0, 0), (136, .aload_n 0, 1, 0, 0), (137, .getfield 13, 3, 11, 1), (140, .iconst 5, 1, 0, 0), (141, .sipush 9999, 3, 0, 0), (144, .aload_n 0, 1, 0, 0), (145, .getfield 13, 3, 11, 1), (148, .iconst 5, 1, 0, 0), (149, .iaload, 1, 0, 0), (150, .iload_n 3, 1, 0, 0), (151, .iadd, 1, 0, 0), (152, .invokestatic 149, 3, 0, 345), (155, .iastore, 1, 0, 0), (156, .aload_n 0, 1, 0, 0), (157, .iload_n 1, 1, 0, 0), (158, .invokevirtual 340, 3, 0, 267), (161, .aload_n 0, 1, 0, 0), (162, .iload_n 1, 1, 0, 0), (163, .iconst 0, 1, 0, 0), (164, .invokevirtual 285, 3, 0, 249), (167, .aload_n 0, 1, 0, 0), (168, .iload_n 1, 1, 0, 0), (169, .invokevirtual 282, 3, 0, 207), (172, .ifCond .eq 7, 3, 0, 0), (175, .iconst 0, 1, 0, 0), (176, .goto 8, 3, 0, 0), (179, .aload_n 0, 1, 0, 0), (180, .iload_n 1, 1, 0, 0), (181, .invokevirtual 295, 3, 0, 251), (184, .istore 5, 2, 0, 0), (186, .iconst 0, 1, 0, 0), (187, .istore 6, 2, 0, 0), (189, .iload 6, 2, 0, 0), (191, .bipush 8, 2, 0, 0), (193, .if_icmp .ge 73, 3, 0, 0), (196, .iload 5, 2, 0, 0), (198, .ifCond .le 68, 3, 0, 0), (201, .aload_n 0, 1, 0, 0), (202, .iload 6, 2, 0, 0), (204, .invokevirtual 75, 3, 0, 205), (207, .ifCond .eq 53, 3, 0, 0), (210, .aload_n 0, 1, 0, 0), (211, .iload 6, 2, 0, 0), (213, .invokevirtual 282, 3, 0, 207), (216, .ifCond .eq 44, 3, 0, 0), (219, .aload_n 0, 1, 0, 0), (220, .iload 6, 2, 0, 0), (222, .iconst 2, 1, 0, 0), (223, .invokevirtual 69, 3, 0, 204), (226, .iload 5, 2, 0, 0), (228, .if_icmp .le 32, 3, 0, 0), (231, .aload_n 0, 1, 0, 0), (232, .iload 6, 2, 0, 0), (234, .iconst 2, 1, 0, 0), (235, .invokevirtual 69, 3, 0, 204), (238, .aload_n 0, 1, 0, 0), (239, .iload_n 1, 1, 0, 0), (240, .iconst 2, 1, 0, 0), (241, .invokevirtual 69, 3, 0, 204), (244, .if_icmp .le 16, 3, 0, 0), (247, .aload_n 0, 1, 0, 0), (248, .getfield 13, 3, 11, 1), (251, .iload 6, 2, 0, 0), (253, .bipush 10, 2, 0, 0), (255, .invokestatic 66, 3, 0, 203), (258, .iconst 1, 1, 0, 0), (259, .iastore, 1, 0, 0), (260, .iinc 6 1, 3, 0, 0), (263, .goto (-74), 3, 0, 0), (266, .aload_n 0, 1, 0, 0), (267, .invokevirtual 331, 3, 0, 257), (270, .aload_n 0, 1, 0, 0), (271, .invokevirtual 252, 3, 0, 261), (274, .iload 4, 2, 0, 0), (276, .ireturn, 1, 0, 0)]
/-- SerialGateModel.commits(I)I -/
def mm_M268 : mm_M := (yX11_commits, cX11_commits, 7, (some .int), 11, false, [], [], mm_k268)
theorem mm_d268 : mm_k268.all (fun q => mm_deq (decode cX11_commits q.1) q.2.1 q.2.2.1) = true := by decide +kernel
def mm_k269 : List mm_I := [(0, .iload_n 0, 1, 0, 0), (1, .invokestatic 343, 3, 0, 342), (4, .ireturn, 1, 0, 0)]
/-- SerialGateModel.firstOf(I)I -/
def mm_M269 : mm_M := (yX11_firstOf, cX11_firstOf, 1, (some .int), 11, false, [], [], mm_k269)
theorem mm_d269 : mm_k269.all (fun q => mm_deq (decode cX11_firstOf q.1) q.2.1 q.2.2.1) = true := by decide +kernel
def mm_k270 : List mm_I := [(0, .aload_n 0, 1, 0, 0), (1, .iload_n 1, 1, 0, 0), (2, .invokevirtual 346, 3, 0, 209), (5, .istore_n 2, 1, 0, 0), (6, .iload_n 2, 1, 0, 0), (7, .iconst (-1), 1, 0, 0), (8, .if_icmp .ne 5, 3, 0, 0), (11, .iconst 0, 1, 0, 0), (12, .ireturn, 1, 0, 0), (13, .aload_n 0, 1, 0, 0), (14, .iload_n 1, 1, 0, 0), (15, .iconst 0, 1, 0, 0), (16, .invokevirtual 72, 3, 0, 202), (19, .aload_n 0, 1, 0, 0), (20, .iload_n 2, 1, 0, 0), (21, .iconst 4, 1, 0, 0), (22, .invokevirtual 69, 3, 0, 204), (25, .iconst (-1), 1, 0, 0), (26, .ixor, 1, 0, 0), (27, .iand, 1, 0, 0), (28, .istore_n 3, 1, 0, 0), (29, .aload_n 0, 1, 0, 0), (30, .iload_n 1, 1, 0, 0), (31, .iconst 1, 1, 0, 0), (32, .invokevirtual 72, 3, 0, 202), (35, .aload_n 0, 1, 0, 0), (36, .iload_n 2, 1, 0, 0), (37, .bipush 6, 2, 0, 0), (39, .invokevirtual 69, 3, 0, 204), (42, .iconst (-1), 1, 0, 0), (43, .ixor, 1, 0, 0), (44, .iand, 1, 0, 0), (45, .istore 4, 2, 0, 0), (47, .iload_n 3, 1, 0, 0), (48, .ifCond .eq 13, 3, 0, 0), (51, .bipush 100, 2, 0, 0), (53, .iload_n 3, 1, 0, 0), (54, .invokestatic 322, 3, 0, 269), (57, .iadd, 1, 0, 0), (58, .goto 23, 3, 0, 0), (61, .iload 4, 2, 0, 0), (63, .ifCond .eq 15, 3, 0, 0), (66, .sipush 200, 3, 0, 0), (69, .iload 4, 2, 0, 0), (71, .invokestatic 322, 3, 0, 269), (74, .iadd, 1, 0, 0), (75, .goto 6, 3, 0, 0), (78, .sipush 300, 3, 0, 0), (81, .ireturn, 1, 0, 0)]
/-- SerialGateModel.stepOf(I)I -/
def mm_M270 : mm_M := (yX11_stepOf, cX11_stepOf, 5, (some .int), 11, false, [], [], mm_k270)
theorem mm_d270 : mm_k270.all (fun q => mm_deq (decode cX11_stepOf q.1) q.2.1 q.2.2.1) = true := by decide +kernel
def mm_k271 : List mm_I := [(0, .aload_n 0, 1, 0, 0), (1, .invokevirtual 129, 3, 0, 198), (4, .ifCond .ne 5, 3, 0, 0), (7, .iconst 0, 1, 0, 0), (8, .ireturn, 1, 0, 0), (9, .aload_n 0, 1, 0, 0), (10, .aload_n 0, 1, 0, 0), (11, .invokevirtual 129, 3, 0, 198), (14, .invokevirtual 349, 3, 0, 212), (17, .istore_n 1, 1, 0, 0), (18, .aload_n 0, 1, 0, 0), (19, .iload_n 1, 1, 0, 0), (20, .invokevirtual 346, 3, 0, 209), (23, .istore_n 2, 1, 0, 0), (24, .aload_n 0, 1, 0, 0), (25, .iload_n 1, 1, 0, 0), (26, .invokevirtual 352, 3, 0, 270), (29, .istore_n 3, 1, 0, 0), (30, .iload_n 3, 1, 0, 0), (31, .ifCond .ne 20, 3, 0, 0), (34, .aload_n 0, 1, 0, 0), (35, .iconst 0, 1, 0, 0), (36, .invokevirtual 313, 3, 0, 208), (39, .ifCond .eq 70, 3, 0, 0), (42, .aload_n 0, 1, 0, 0), (43, .iload_n 1, 1, 0, 0), (44, .invokevirtual 355, 3, 0, 262), (47, .pop, 1, 0, 0), (48, .goto 61, 3, 0, 0), (51, .iload_n 3, 1, 0, 0), (52, .sipush 200, 3, 0, 0), (55, .if_icmp .ge 15, 3, 0, 0), (58, .aload_n 0, 1, 0, 0), (59, .iload_n 2, 1, 0, 0), (60, .iload_n 3, 1, 0, 0), (61, .bipush 100, 2, 0, 0), (63, .isub, 1, 0, 0), (64, .invokevirtual 358, 3, 0, 263), (67, .goto 42, 3, 0, 0), (70, .iload_n 3, 1, 0, 0), (71, .sipush 300, 3, 0, 0), (74, .if_icmp .ge 29, 3, 0, 0), (77, .aload_n 0, 1, 0, 0), (78, .iload_n 2, 1, 0, 0), (79, .iload_n 3, 1, 0, 0), (80, .sipush 200, 3, 0, 0), (83, .isub, 1, 0, 0), (84, .invokevirtual 360, 3, 0, 264), (87, .ifCond .ne 22, 3, 0, 0), (90, .aload_n 0, 1, 0, 0), (91, .iload_n 2, 1, 0, 0), (92, .iload_n 3, 1, 0, 0), (93, .sipush 200, 3, 0, 0), (96, .isub, 1, 0, 0), (97, .invokevirtual 363, 3, 0, 265), (100, .goto 9, 3, 0, 0), (103, .aload_n 0, 1, 0, 0), (104, .iload_n 2, 1, 0, 0), (105, .invokevirtual 365, 3, 0, 268), (108, .pop, 1, 0, 0), (109, .iload_n 3, 1, 0, 0), (110, .sipush 300, 3, 0, 0), (113, .if_icmp .ne 7, 3, 0, 0), (116, .iconst 1, 1, 0, 0), (117, .goto 4, 3, 0, 0), (120, .iconst 0, 1, 0, 0), (121, .ireturn, 1, 0, 0)]
/-- SerialGateModel.tick()I -/
def mm_M271 : mm_M := (yX11_tick, cX11_tick, 4, (some .int), 11, false, [], [], mm_k271)
theorem mm_d271 : mm_k271.all (fun q => mm_deq (decode cX11_tick q.1) q.2.1 q.2.2.1) = true := by decide +kernel
def mm_k272 : List mm_I := [(0, .iconst 0, 1, 0, 0), (1, .istore_n 2, 1, 0, 0), (2, .iconst 0, 1, 0, 0), (3, .istore_n 3, 1, 0, 0), (4, .iload_n 3, 1, 0, 0), (5, .iload_n 1, 1, 0, 0), (6, .if_icmp .ge 16, 3, 0, 0), (9, .iload_n 2, 1, 0, 0), (10, .aload_n 0, 1, 0, 0), (11, .invokevirtual 368, 3, 0, 271), (14, .iadd, 1, 0, 0), (15, .istore_n 2, 1, 0, 0), (16, .iinc 3 1, 3, 0, 0), (19, .goto (-15), 3, 0, 0), (22, .iload_n 2, 1, 0, 0), (23, .ireturn, 1, 0, 0)]
/-- SerialGateModel.goesOn(I)I -/
def mm_M272 : mm_M := (yX11_goesOn, cX11_goesOn, 4, (some .int), 11, false, [], [], mm_k272)
theorem mm_d272 : mm_k272.all (fun q => mm_deq (decode cX11_goesOn q.1) q.2.1 q.2.2.1) = true := by decide +kernel
def mm_k273 : List mm_I := [(0, .iload_n 0, 1, 0, 0), (1, .iconst 0, 1, 0, 0), (2, .bipush 7, 2, 0, 0), (4, .invokestatic 371, 3, 0, 189), (7, .ifCond .ne 7, 3, 0, 0), (10, .iconst 1, 1, 0, 0), (11, .goto 4, 3, 0, 0), (14, .iconst 0, 1, 0, 0), (15, .ireturn, 1, 0, 0)]
/-- SerialGateModel.noSlot(I)Z -/
def mm_M273 : mm_M := (yX11_noSlot, cX11_noSlot, 1, (some .boolean), 11, false, [], [], mm_k273)
theorem mm_d273 : mm_k273.all (fun q => mm_deq (decode cX11_noSlot q.1) q.2.1 q.2.2.1) = true := by decide +kernel
def mm_k274 : List mm_I := [(0, .iload_n 0, 1, 0, 0), (1, .iconst 0, 1, 0, 0), (2, .bipush 9, 2, 0, 0), (4, .invokestatic 371, 3, 0, 189), (7, .ifCond .ne 7, 3, 0, 0), (10, .iconst 1, 1, 0, 0), (11, .goto 4, 3, 0, 0), (14, .iconst 0, 1, 0, 0), (15, .ireturn, 1, 0, 0)]
/-- SerialGateModel.noKey(I)Z -/
def mm_M274 : mm_M := (yX11_noKey, cX11_noKey, 1, (some .boolean), 11, false, [], [], mm_k274)
theorem mm_d274 : mm_k274.all (fun q => mm_deq (decode cX11_noKey q.1) q.2.1 q.2.2.1) = true := by decide +kernel
def mm_k275 : List mm_I := [(0, .iload_n 1, 1, 0, 0), (1, .iconst 0, 1, 0, 0), (2, .aload_n 0, 1, 0, 0), (3, .invokevirtual 129, 3, 0, 198), (6, .iconst 1, 1, 0, 0), (7, .isub, 1, 0, 0), (8, .invokestatic 371, 3, 0, 189), (11, .ifCond .ne 7, 3, 0, 0), (14, .iconst 1, 1, 0, 0), (15, .goto 4, 3, 0, 0), (18, .iconst 0, 1, 0, 0), (19, .ireturn, 1, 0, 0)]
/-- SerialGateModel.noClient(I)Z -/
def mm_M275 : mm_M := (yX11_noClient, cX11_noClient, 2, (some .boolean), 11, false, [], [], mm_k275)
theorem mm_d275 : mm_k275.all (fun q => mm_deq (decode cX11_noClient q.1) q.2.1 q.2.2.1) = true := by decide +kernel
def mm_k276 : List mm_I := [(0, .aload_n 0, 1, 0, 0), (1, .iconst 0, 1, 0, 0), (2, .putfield 3, 3, 11, 0), (5, .aload_n 0, 1, 0, 0), (6, .iload_n 1, 1, 0, 0), (7, .invokestatic 374, 3, 0, 273), (10, .iconst 1, 1, 0, 0), (11, .invokevirtual 249, 3, 0, 188), (14, .ifCond .ne 26, 3, 0, 0), (17, .aload_n 0, 1, 0, 0), (18, .iload_n 2, 1, 0, 0), (19, .iconst 0, 1, 0, 0), (20, .bipush 15, 2, 0, 0), (22, .invokestatic 371, 3, 0, 189), (25, .ifCond .ne 7, 3, 0, 0), (28, .iconst 1, 1, 0, 0), (29, .goto 4, 3, 0, 0), (32, .iconst 0, 1, 0, 0), (33, .iconst 2, 1, 0, 0), (34, .invokevirtual 249, 3, 0, 188), (37, .ifCond .eq 5, 3, 0, 0), (40, .iconst 0, 1, 0, 0), (41, .ireturn, 1, 0, 0), (42, .aload_n 0, 1, 0, 0), (43, .iload_n 1, 1, 0, 0), (44, .iconst 0, 1, 0, 0), (45, .invokevirtual 69, 3, 0, 204), (48, .ifCond .ne 13, 3, 0, 0), (51, .iload_n 2, 1, 0, 0), (52, .ifCond .ne 7, 3, 0, 0), (55, .iconst 0, 1, 0, 0), (56, .goto 4, 3, 0, 0), (59, .iconst (-1), 1, 0, 0), (60, .ireturn, 1, 0, 0), (61, .iload_n 2, 1, 0, 0), (62, .tableswitch 120 7 15 #[50, 58, 64, 70, 76, 82, 90, 98, 112], 50, 0, 0), (112, .aload_n 0, 1, 0, 0), (113, .iload_n 1, 1, 0, 0), (114, .bipush 7, 2, 0, 0), (116, .invokevirtual 69, 3, 0, 204), (119, .ireturn, 1, 0, 0), (120, .aload_n 0, 1, 0, 0), (121, .iload_n 1, 1, 0, 0), (122, .invokevirtual 255, 3, 0, 211), (125, .ireturn, 1, 0, 0), (126, .aload_n 0, 1, 0, 0), (127, .iload_n 1, 1, 0, 0), (128, .invokevirtual 295, 3, 0, 251), (131, .ireturn, 1, 0, 0), (132, .aload_n 0, 1, 0, 0), (133, .iload_n 1, 1, 0, 0), (134, .invokevirtual 298, 3, 0, 247), (137, .ireturn, 1, 0, 0), (138, .aload_n 0, 1, 0, 0), (139, .iload_n 1, 1, 0, 0), (140, .invokevirtual 337, 3, 0, 248), (143, .ireturn, 1, 0, 0), (144, .aload_n 0, 1, 0, 0), (145, .iload_n 1, 1, 0, 0), (146, .bipush 8, 2, 0, 0), (148, .invokevirtual 69, 3, 0, 204), (151, .ireturn, 1, 0, 0), (152, .aload_n 0, 1, 0, 0), (153, .iload_n 1, 1, 0, 0), (154, .bipush 9, 2, 0, 0), (156, .invokevirtual 69, 3, 0, 204), (159, .ireturn, 1, 0, 0), (160, .aload_n 0, 1, 0, 0), (161, .iload_n 1, 1, 0, 0), (162, .invokevirtual 325, 3, 0, 252), (165, .ifCond .eq 7, 3, 0, 0), (168, .iconst 1, 1, 0, 0), (169, .goto 4, 3, 0, 0), (172, .iconst 0, 1, 0, 0), (173, .ireturn, 1, 0, 0), (174, .aload_n 0, 1, 0, 0), (175, .iload_n 1, 1, 0, 0), (176, .bipush 10, 2, 0, 0), (178, .invokevirtual 69, 3, 0, 204), (181, .ireturn, 1, 0, 0), (182, .aload_n 0, 1, 0, 0), (183, .iload_n 1, 1, 0, 0), (184, .iload_n 2, 1, 0, 0), (185, .invokevirtual 69, 3, 0, 204), (188, .ireturn, 1, 0, 0)]
/-- SerialGateModel.slot(II)I -/
def mm_M276 : mm_M := (yX11_slot, cX11_slot, 3, (some .int), 11, false, [], [], mm_k276)
theorem mm_d276 : mm_k276.all (fun q => mm_deq (decode cX11_slot q.1) q.2.1 q.2.2.1) = true := by decide +kernel
def mm_k277 : List mm_I := [(0, .aload_n 0, 1, 0, 0), (1, .iconst 0, 1, 0, 0), (2, .putfield 3, 3, 11, 0), (5, .aload_n 0, 1, 0, 0), (6, .iload_n 1, 1, 0, 0), (7, .invokestatic 374, 3, 0, 273), (10, .ifCond .ne 10, 3, 0, 0), (13, .iload_n 2, 1, 0, 0), (14, .invokestatic 377, 3, 0, 274), (17, .ifCond .eq 7, 3, 0, 0), (20, .iconst 1, 1, 0, 0), (21, .goto 4, 3, 0, 0), (24, .iconst 0, 1, 0, 0), (25, .iconst 1, 1, 0, 0), (26, .invokevirtual 249, 3, 0, 188), (29, .ifCond .eq 5, 3, 0, 0), (32, .iconst 0, 1, 0, 0), (33, .ireturn, 1, 0, 0), (34, .aload_n 0, 1, 0, 0), (35, .iload_n 1, 1, 0, 0), (36, .iconst 0, 1, 0, 0), (37, .invokevirtual 69, 3, 0, 204), (40, .ifCond .ne 7, 3, 0, 0), (43, .iconst (-1), 1, 0, 0), (44, .goto 12, 3, 0, 0), (47, .aload_n 0, 1, 0, 0), (48, .iload_n 1, 1, 0, 0), (49, .bipush 11, 2, 0, 0), (51, .iload_n 2, 1, 0, 0), (52, .iadd, 1, 0, 0), (53, .invokevirtual 69, 3, 0, 204), (56, .ireturn, 1, 0, 0)]
/-- SerialGateModel.seen(II)I -/
def mm_M277 : mm_M := (yX11_seen, cX11_seen, 3, (some .int), 11, false, [], [], mm_k277)
theorem mm_d277 : mm_k277.all (fun q => mm_deq (decode cX11_seen q.1) q.2.1 q.2.2.1) = true := by decide +kernel
def mm_k278 : List mm_I := [(0, .aload_n 0, 1, 0, 0), (1, .iconst 0, 1, 0, 0), (2, .putfield 3, 3, 11, 0), (5, .aload_n 0, 1, 0, 0), (6, .iload_n 1, 1, 0, 0), (7, .invokestatic 377, 3, 0, 274), (10, .iconst 1, 1, 0, 0), (11, .invokevirtual 249, 3, 0, 188), (14, .ifCond .ne 25, 3, 0, 0), (17, .aload_n 0, 1, 0, 0), (18, .iload_n 2, 1, 0, 0), (19, .iconst 0, 1, 0, 0), (20, .iconst 4, 1, 0, 0), (21, .invokestatic 371, 3, 0, 189), (24, .ifCond .ne 7, 3, 0, 0), (27, .iconst 1, 1, 0, 0), (28, .goto 4, 3, 0, 0), (31, .iconst 0, 1, 0, 0), (32, .iconst 2, 1, 0, 0), (33, .invokevirtual 249, 3, 0, 188), (36, .ifCond .eq 5, 3, 0, 0), (39, .iconst 0, 1, 0, 0), (40, .ireturn, 1, 0, 0), (41, .iload_n 2, 1, 0, 0), (42, .iconst 4, 1, 0, 0), (43, .if_icmp .ne 11, 3, 0, 0), (46, .aload_n 0, 1, 0, 0), (47, .iload_n 1, 1, 0, 0), (48, .invokevirtual 142, 3, 0, 210), (51, .goto 9, 3, 0, 0), (54, .aload_n 0, 1, 0, 0), (55, .iload_n 1, 1, 0, 0), (56, .iload_n 2, 1, 0, 0), (57, .invokevirtual 146, 3, 0, 200), (60, .ireturn, 1, 0, 0)]
/-- SerialGateModel.key(II)I -/
def mm_M278 : mm_M := (yX11_key, cX11_key, 3, (some .int), 11, false, [], [], mm_k278)
theorem mm_d278 : mm_k278.all (fun q => mm_deq (decode cX11_key q.1) q.2.1 q.2.2.1) = true := by decide +kernel
def mm_k279 : List mm_I := [(0, .iconst 0, 1, 0, 0), (1, .istore_n 1, 1, 0, 0), (2, .iconst 0, 1, 0, 0), (3, .istore_n 2, 1, 0, 0), (4, .iload_n 2, 1, 0, 0), (5, .aload_n 0, 1, 0, 0), (6, .invokevirtual 129, 3, 0, 198), (9, .if_icmp .ge 18, 3, 0, 0), (12, .iload_n 1, 1, 0, 0), (13, .aload_n 0, 1, 0, 0), (14, .iload_n 2, 1, 0, 0), (15, .iconst 4, 1, 0, 0), (16, .invokevirtual 72, 3, 0, 202), (19, .iadd, 1, 0, 0), (20, .istore_n 1, 1, 0, 0), (21, .iinc 2 1, 3, 0, 0), (24, .goto (-20), 3, 0, 0), (27, .iload_n 1, 1, 0, 0), (28, .ireturn, 1, 0, 0)]
/-- SerialGateModel.doneOfAll()I -/
def mm_M279 : mm_M := (yX11_doneOfAll, cX11_doneOfAll, 3, (some .int), 11, false, [], [], mm_k279)
theorem mm_d279 : mm_k279.all (fun q => mm_deq (decode cX11_doneOfAll q.1) q.2.1 q.2.2.1) = true := by decide +kernel
def mm_k280 : List mm_I := [(0, .aload_n 0, 1, 0, 0), (1, .iconst 0, 1, 0, 0), (2, .putfield 3, 3, 11, 0), (5, .aload_n 0, 1, 0, 0), (6, .aload_n 0, 1, 0, 0), (7, .iload_n 1, 1, 0, 0), (8, .invokevirtual 380, 3, 0, 275), (11, .iconst 1, 1, 0, 0), (12, .invokevirtual 249, 3, 0, 188), (15, .ifCond .ne 26, 3, 0, 0), (18, .aload_n 0, 1, 0, 0), (19, .iload_n 2, 1, 0, 0), (20, .iconst 0, 1, 0, 0), (21, .bipush 8, 2, 0, 0), (23, .invokestatic 371, 3, 0, 189), (26, .ifCond .ne 7, 3, 0, 0), (29, .iconst 1, 1, 0, 0), (30, .goto 4, 3, 0, 0), (33, .iconst 0, 1, 0, 0), (34, .iconst 2, 1, 0, 0), (35, .invokevirtual 249, 3, 0, 188), (38, .ifCond .eq 5, 3, 0, 0), (41, .iconst 0, 1, 0, 0), (42, .ireturn, 1, 0, 0), (43, .iload_n 2, 1, 0, 0), (44, .tableswitch 81 5 8 #[32, 38, 44, 55], 32, 0, 0), (76, .aload_n 0, 1, 0, 0), (77, .iload_n 1, 1, 0, 0), (78, .invokevirtual 346, 3, 0, 209), (81, .ireturn, 1, 0, 0), (82, .aload_n 0, 1, 0, 0), (83, .iload_n 1, 1, 0, 0), (84, .invokevirtual 352, 3, 0, 270), (87, .ireturn, 1, 0, 0), (88, .aload_n 0, 1, 0, 0), (89, .invokevirtual 383, 3, 0, 308), (92, .aload_n 0, 1, 0, 0), (93, .getfield 42, 3, 11, 19), (96, .iload_n 1, 1, 0, 0), (97, .iaload, 1, 0, 0), (98, .ireturn, 1, 0, 0), (99, .aload_n 0, 1, 0, 0), (100, .invokevirtual 386, 3, 0, 279), (103, .ifCond .ne 7, 3, 0, 0), (106, .iconst 0, 1, 0, 0), (107, .goto 17, 3, 0, 0), (110, .bipush 100, 2, 0, 0), (112, .aload_n 0, 1, 0, 0), (113, .iload_n 1, 1, 0, 0), (114, .iconst 4, 1, 0, 0), (115, .invokevirtual 72, 3, 0, 202), (118, .imul, 1, 0, 0), (119, .aload_n 0, 1, 0, 0), (120, .invokevirtual 386, 3, 0, 279), (123, .idiv, 1, 0, 0), (124, .ireturn, 1, 0, 0), (125, .aload_n 0, 1, 0, 0), (126, .iload_n 1, 1, 0, 0), (127, .iload_n 2, 1, 0, 0), (128, .invokevirtual 72, 3, 0, 202), (131, .ireturn, 1, 0, 0)]
/-- SerialGateModel.client(II)I -/
def mm_M280 : mm_M := (yX11_client, cX11_client, 3, (some .int), 11, false, [], [], mm_k280)
theorem mm_d280 : mm_k280.all (fun q => mm_deq (decode cX11_client q.1) q.2.1 q.2.2.1) = true := by decide +kernel
def mm_k281 : List mm_I := [(0, .aload_n 0, 1, 0, 0), (1, .iconst 0, 1, 0, 0), (2, .putfield 3, 3, 11, 0), (5, .aload_n 0, 1, 0, 0), (6, .iload_n 1, 1, 0, 0), (7, .iconst 1, 1, 0, 0), (8, .bipush 60, 2, 0, 0), (10, .invokestatic 371, 3, 0, 189), (13, .ifCond .ne 7, 3, 0, 0), (16, .iconst 1, 1, 0, 0), (17, .goto 4, 3, 0, 0), (20, .iconst 0, 1, 0, 0), (21, .iconst 1, 1, 0, 0), (22, .invokevirtual 249, 3, 0, 188), (25, .ifCond .eq 5, 3, 0, 0), (28, .iconst 0, 1, 0, 0), (29, .ireturn, 1, 0, 0), (30, .aload_n 0, 1, 0, 0), (31, .invokevirtual 389, 3, 0, 194), (34, .aload_n 0, 1, 0, 0), (35, .iload_n 1, 1, 0, 0), (36, .invokevirtual 392, 3, 0, 272), (39, .ireturn, 1, 0, 0)]
/-- SerialGateModel.ticks(I)I -/
def mm_M281 : mm_M := (yX11_ticks, cX11_ticks, 2, (some .int), 11, false, [], [], mm_k281)
theorem mm_d281 : mm_k281.all (fun q => mm_deq (decode cX11_ticks q.1) q.2.1 q.2.2.1) = true := by decide +kernel
def mm_k282 : List mm_I := [(0, .aload_n 0, 1, 0, 0), (1, .iconst 0, 1, 0, 0), (2, .putfield 3, 3, 11, 0), (5, .aload_n 0, 1, 0, 0), (6, .aload_n 0, 1, 0, 0), (7, .iload_n 1, 1, 0, 0), (8, .invokevirtual 380, 3, 0, 275), (11, .iconst 1, 1, 0, 0), (12, .invokevirtual 249, 3, 0, 188), (15, .ifCond .ne 33, 3, 0, 0), (18, .aload_n 0, 1, 0, 0), (19, .aload_n 0, 1, 0, 0), (20, .iload_n 1, 1, 0, 0), (21, .invokevirtual 346, 3, 0, 209), (24, .iconst (-1), 1, 0, 0), (25, .if_icmp .ne 11, 3, 0, 0), (28, .aload_n 0, 1, 0, 0), (29, .iconst 0, 1, 0, 0), (30, .invokevirtual 313, 3, 0, 208), (33, .ifCond .ne 7, 3, 0, 0), (36, .iconst 1, 1, 0, 0), (37, .goto 4, 3, 0, 0), (40, .iconst 0, 1, 0, 0), (41, .iconst 2, 1, 0, 0), (42, .invokevirtual 249, 3, 0, 188), (45, .ifCond .eq 5, 3, 0, 0), (48, .iconst 0, 1, 0, 0), (49, .ireturn, 1, 0, 0), (50, .aload_n 0, 1, 0, 0), (51, .invokevirtual 389, 3, 0, 194), (54, .aload_n 0, 1, 0, 0), (55, .iload_n 1, 1, 0, 0), (56, .invokevirtual 355, 3, 0, 262), (59, .ireturn, 1, 0, 0)]
/-- SerialGateModel.begin(I)I -/
def mm_M282 : mm_M := (yX11_begin, cX11_begin, 2, (some .int), 11, false, [], [], mm_k282)
theorem mm_d282 : mm_k282.all (fun q => mm_deq (decode cX11_begin q.1) q.2.1 q.2.2.1) = true := by decide +kernel
def mm_k283 : List mm_I := [(0, .aload_n 0, 1, 0, 0), (1, .iconst 0, 1, 0, 0), (2, .putfield 3, 3, 11, 0), (5, .aload_n 0, 1, 0, 0), (6, .iload_n 1, 1, 0, 0), (7, .invokestatic 374, 3, 0, 273), (10, .ifCond .ne 10, 3, 0, 0), (13, .iload_n 2, 1, 0, 0), (14, .invokestatic 377, 3, 0, 274), (17, .ifCond .eq 7, 3, 0, 0), (20, .iconst 1, 1, 0, 0), (21, .goto 4, 3, 0, 0), (24, .iconst 0, 1, 0, 0), (25, .iconst 1, 1, 0, 0), (26, .invokevirtual 249, 3, 0, 188), (29, .ireturn, 1, 0, 0)]
/-- SerialGateModel.noBoth(II)Z -/
def mm_M283 : mm_M := (yX11_noBoth, cX11_noBoth, 3, (some .boolean), 11, false, [], [], mm_k283)
theorem mm_d283 : mm_k283.all (fun q => mm_deq (decode cX11_noBoth q.1) q.2.1 q.2.2.1) = true := by decide +kernel
def mm_k284 : List mm_I := [(0, .aload_n 0, 1, 0, 0), (1, .iload_n 1, 1, 0, 0), (2, .iload_n 2, 1, 0, 0), (3, .invokevirtual 395, 3, 0, 283), (6, .ifCond .ne 24, 3, 0, 0), (9, .aload_n 0, 1, 0, 0), (10, .aload_n 0, 1, 0, 0), (11, .iload_n 1, 1, 0, 0), (12, .invokevirtual 75, 3, 0, 205), (15, .ifCond .ne 7, 3, 0, 0), (18, .iconst 1, 1, 0, 0), (19, .goto 4, 3, 0, 0), (22, .iconst 0, 1, 0, 0), (23, .iconst 2, 1, 0, 0), (24, .invokevirtual 249, 3, 0, 188), (27, .ifCond .eq 5, 3, 0, 0), (30, .iconst 0, 1, 0, 0), (31, .ireturn, 1, 0, 0), (32, .aload_n 0, 1, 0, 0), (33, .invokevirtual 389, 3, 0, 194), (36, .aload_n 0, 1, 0, 0), (37, .iload_n 1, 1, 0, 0), (38, .bipush 11, 2, 0, 0), (40, .iload_n 2, 1, 0, 0), (41, .iadd, 1, 0, 0), (42, .invokevirtual 69, 3, 0, 204), (45, .aload_n 0, 1, 0, 0), (46, .iload_n 1, 1, 0, 0), (47, .bipush 6, 2, 0, 0), (49, .invokevirtual 69, 3, 0, 204), (52, .iload_n 2, 1, 0, 0), (53, .invokestatic 79, 3, 0, 190), (56, .ifCond .eq 7, 3, 0, 0), (59, .iconst 1, 1, 0, 0), (60, .goto 4, 3, 0, 0), (63, .iconst 0, 1, 0, 0), (64, .iadd, 1, 0, 0), (65, .istore_n 3, 1, 0, 0), (66, .aload_n 0, 1, 0, 0), (67, .iload_n 1, 1, 0, 0), (68, .iload_n 2, 1, 0, 0), (69, .invokevirtual 358, 3, 0, 263), (72, .aload_n 0, 1, 0, 0), (73, .iload_n 1, 1, 0, 0), (74, .invokevirtual 75, 3, 0, 205), (77, .ifCond .eq 7, 3, 0, 0), (80, .iload_n 3, 1, 0, 0), (81, .goto 4, 3, 0, 0), (84, .iconst (-1), 1, 0, 0), (85, .ireturn, 1, 0, 0)]
/-- SerialGateModel.read(II)I -/
def mm_M284 : mm_M := (yX11_read, cX11_read, 4, (some .int), 11, false, [], [], mm_k284)
theorem mm_d284 : mm_k284.all (fun q => mm_deq (decode cX11_read q.1) q.2.1 q.2.2.1) = true := by decide +kernel
def mm_k285 : List mm_I := [(0, .aload_n 0, 1, 0, 0), (1, .iload_n 1, 1, 0, 0), (2, .iload_n 2, 1, 0, 0), (3, .invokevirtual 395, 3, 0, 283), (6, .ifCond .ne 41, 3, 0, 0), (9, .aload_n 0, 1, 0, 0), (10, .aload_n 0, 1, 0, 0), (11, .iload_n 1, 1, 0, 0), (12, .invokevirtual 75, 3, 0, 205), (15, .ifCond .eq 20, 3, 0, 0), (18, .aload_n 0, 1, 0, 0), (19, .iload_n 1, 1, 0, 0), (20, .invokevirtual 282, 3, 0, 207), (23, .ifCond .ne 12, 3, 0, 0), (26, .aload_n 0, 1, 0, 0), (27, .iload_n 1, 1, 0, 0), (28, .iload_n 2, 1, 0, 0), (29, .invokevirtual 360, 3, 0, 264), (32, .ifCond .eq 7, 3, 0, 0), (35, .iconst 1, 1, 0, 0), (36, .goto 4, 3, 0, 0), (39, .iconst 0, 1, 0, 0), (40, .iconst 2, 1, 0, 0), (41, .invokevirtual 249, 3, 0, 188), (44, .ifCond .eq 5, 3, 0, 0), (47, .iconst 0, 1, 0, 0), (48, .ireturn, 1, 0, 0), (49, .aload_n 0, 1, 0, 0), (50, .invokevirtual 389, 3, 0, 194), (53, .aload_n 0, 1, 0, 0), (54, .iload_n 1, 1, 0, 0), (55, .iload_n 2, 1, 0, 0), (56, .invokevirtual 363, 3, 0, 265), (59, .aload_n 0, 1, 0, 0), (60, .iload_n 1, 1, 0, 0), (61, .invokevirtual 75, 3, 0, 205), (64, .ireturn, 1, 0, 0)]
/-- SerialGateModel.write(II)Z -/
def mm_M285 : mm_M := (yX11_write, cX11_write, 3, (some .boolean), 11, false, [], [], mm_k285)
theorem mm_d285 : mm_k285.all (fun q => mm_deq (decode cX11_write q.1) q.2.1 q.2.2.1) = true := by decide +kernel
def mm_k286 : List mm_I := [(0, .aload_n 0, 1, 0, 0), (1, .iconst 0, 1, 0, 0), (2, .putfield 3, 3, 11, 0), (5, .aload_n 0, 1, 0, 0), (6, .iload_n 1, 1, 0, 0), (7, .invokestatic 374, 3, 0, 273), (10, .iconst 1, 1, 0, 0), (11, .invokevirtual 249, 3, 0, 188), (14, .ifCond .ne 24, 3, 0, 0), (17, .aload_n 0, 1, 0, 0), (18, .aload_n 0, 1, 0, 0), (19, .iload_n 1, 1, 0, 0), (20, .invokevirtual 75, 3, 0, 205), (23, .ifCond .ne 7, 3, 0, 0), (26, .iconst 1, 1, 0, 0), (27, .goto 4, 3, 0, 0), (30, .iconst 0, 1, 0, 0), (31, .iconst 2, 1, 0, 0), (32, .invokevirtual 249, 3, 0, 188), (35, .ifCond .eq 7, 3, 0, 0), (38, .iconst 1, 1, 0, 0), (39, .goto 4, 3, 0, 0), (42, .iconst 0, 1, 0, 0), (43, .ireturn, 1, 0, 0)]
/-- SerialGateModel.notRunning(I)Z -/
def mm_M286 : mm_M := (yX11_notRunning, cX11_notRunning, 2, (some .boolean), 11, false, [], [], mm_k286)
theorem mm_d286 : mm_k286.all (fun q => mm_deq (decode cX11_notRunning q.1) q.2.1 q.2.2.1) = true := by decide +kernel
def mm_k287 : List mm_I := [(0, .aload_n 0, 1, 0, 0), (1, .iload_n 1, 1, 0, 0), (2, .invokevirtual 398, 3, 0, 286), (5, .ifCond .eq 5, 3, 0, 0), (8, .iconst 0, 1, 0, 0), (9, .ireturn, 1, 0, 0), (10, .aload_n 0, 1, 0, 0), (11, .invokevirtual 389, 3, 0, 194), (14, .aload_n 0, 1, 0, 0), (15, .iload_n 1, 1, 0, 0), (16, .invokevirtual 365, 3, 0, 268), (19, .ireturn, 1, 0, 0)]
/-- SerialGateModel.commit(I)I -/
def mm_M287 : mm_M := (yX11_commit, cX11_commit, 2, (some .int), 11, false, [], [], mm_k287)
theorem mm_d287 : mm_k287.all (fun q => mm_deq (decode cX11_commit q.1) q.2.1 q.2.2.1) = true := by decide +kernel
def mm_k288 : List mm_I := [(0, .aload_n 0, 1, 0, 0), (1, .iload_n 1, 1, 0, 0), (2, .invokevirtual 398, 3, 0, 286), (5, .ifCond .eq 5, 3, 0, 0), (8, .iconst 0, 1, 0, 0), (9, .ireturn, 1, 0, 0), (10, .aload_n 0, 1, 0, 0), (11, .invokevirtual 389, 3, 0, 194), (14, .aload_n 0, 1, 0, 0), (15, .iload_n 1, 1, 0, 0), (16, .iconst 1, 1, 0, 0), (17, .invokevirtual 69, 3, 0, 204), (20, .istore_n 2, 1, 0, 0), (21, .aload_n 0, 1, 0, 0), (22, .iload_n 1, 1, 0, 0), (23, .iconst 4, 1, 0, 0), (24, .invokevirtual 307, 3, 0, 254), (27, .aload_n 0, 1, 0, 0), (28, .invokevirtual 252, 3, 0, 261), (31, .iload_n 2, 1, 0, 0), (32, .ireturn, 1, 0, 0)]
/-- SerialGateModel.abort(I)I -/
def mm_M288 : mm_M := (yX11_abort, cX11_abort, 3, (some .int), 11, false, [], [], mm_k288)
theorem mm_d288 : mm_k288.all (fun q => mm_deq (decode cX11_abort q.1) q.2.1 q.2.2.1) = true := by decide +kernel
def mm_k289 : List mm_I := [(0, .aload_n 0, 1, 0, 0), (1, .iconst 0, 1, 0, 0), (2, .putfield 3, 3, 11, 0), (5, .aload_n 0, 1, 0, 0), (6, .iload_n 1, 1, 0, 0), (7, .iconst 0, 1, 0, 0), (8, .bipush 6, 2, 0, 0), (10, .invokestatic 371, 3, 0, 189), (13, .ifCond .ne 7, 3, 0, 0), (16, .iconst 1, 1, 0, 0), (17, .goto 4, 3, 0, 0), (20, .iconst 0, 1, 0, 0), (21, .iconst 1, 1, 0, 0), (22, .invokevirtual 249, 3, 0, 188), (25, .ifCond .eq 5, 3, 0, 0), (28, .iconst 0, 1, 0, 0), (29, .ireturn, 1, 0, 0), (30, .aload_n 0, 1, 0, 0), (31, .invokevirtual 389, 3, 0, 194), (34, .aload_n 0, 1, 0, 0), (35, .getfield 13, 3, 11, 1), (38, .iconst 4, 1, 0, 0), (39, .iaload, 1, 0, 0), (40, .istore_n 2, 1, 0, 0), (41, .aload_n 0, 1, 0, 0), (42, .getfield 13, 3, 11, 1), (45, .iconst 4, 1, 0, 0), (46, .iload_n 1, 1, 0, 0), (47, .iastore, 1, 0, 0), (48, .aload_n 0, 1, 0, 0), (49, .invokevirtual 252, 3, 0, 261), (52, .iload_n 2, 1, 0, 0), (53, .ireturn, 1, 0, 0)]
/-- SerialGateModel.keep(I)I -/
def mm_M289 : mm_M := (yX11_keep, cX11_keep, 3, (some .int), 11, false, [], [], mm_k289)
theorem mm_d289 : mm_k289.all (fun q => mm_deq (decode cX11_keep q.1) q.2.1 q.2.2.1) = true := by decide +kernel
def mm_k290 : List mm_I := [(0, .aload_n 0, 1, 0, 0), (1, .iconst 0, 1, 0, 0), (2, .putfield 3, 3, 11, 0), (5, .aload_n 0, 1, 0, 0), (6, .iload_n 1, 1, 0, 0), (7, .invokestatic 374, 3, 0, 273), (10, .ifCond .ne 15, 3, 0, 0), (13, .iload_n 3, 1, 0, 0), (14, .invokestatic 377, 3, 0, 274), (17, .ifCond .eq 12, 3, 0, 0), (20, .iload_n 2, 1, 0, 0), (21, .iconst 2, 1, 0, 0), (22, .if_icmp .eq 7, 3, 0, 0), (25, .iconst 1, 1, 0, 0), (26, .goto 4, 3, 0, 0), (29, .iconst 0, 1, 0, 0), (30, .iconst 1, 1, 0, 0), (31, .invokevirtual 249, 3, 0, 188), (34, .ifCond .ne 46, 3, 0, 0), (37, .aload_n 0, 1, 0, 0), (38, .iload_n 2, 1, 0, 0), (39, .iconst 0, 1, 0, 0), (40, .iconst 2, 1, 0, 0), (41, .invokestatic 371, 3, 0, 189), (44, .ifCond .ne 7, 3, 0, 0), (47, .iconst 1, 1, 0, 0), (48, .goto 4, 3, 0, 0), (51, .iconst 0, 1, 0, 0), (52, .iconst 2, 1, 0, 0), (53, .invokevirtual 249, 3, 0, 188), (56, .ifCond .ne 24, 3, 0, 0), (59, .aload_n 0, 1, 0, 0), (60, .aload_n 0, 1, 0, 0), (61, .iload_n 1, 1, 0, 0), (62, .invokevirtual 75, 3, 0, 205), (65, .ifCond .ne 7, 3, 0, 0), (68, .iconst 1, 1, 0, 0), (69, .goto 4, 3, 0, 0), (72, .iconst 0, 1, 0, 0), (73, .iconst 3, 1, 0, 0), (74, .invokevirtual 249, 3, 0, 188), (77, .ifCond .eq 5, 3, 0, 0), (80, .iconst 0, 1, 0, 0), (81, .ireturn, 1, 0, 0), (82, .aload_n 0, 1, 0, 0), (83, .invokevirtual 401, 3, 0, 196), (86, .aload_n 0, 1, 0, 0), (87, .iconst 0, 1, 0, 0), (88, .putfield 292, 3, 11, 18), (91, .iload_n 2, 1, 0, 0), (92, .ifCond .ne 12, 3, 0, 0), (95, .aload_n 0, 1, 0, 0), (96, .iload_n 1, 1, 0, 0), (97, .iload_n 3, 1, 0, 0), (98, .invokevirtual 358, 3, 0, 263), (101, .goto 40, 3, 0, 0), (104, .iload_n 2, 1, 0, 0), (105, .iconst 2, 1, 0, 0), (106, .if_icmp .ne 12, 3, 0, 0), (109, .aload_n 0, 1, 0, 0), (110, .iload_n 1, 1, 0, 0), (111, .invokevirtual 365, 3, 0, 268), (114, .pop, 1, 0, 0), (115, .goto 26, 3, 0, 0), (118, .aload_n 0, 1, 0, 0), (119, .iload_n 1, 1, 0, 0), (120, .invokevirtual 282, 3, 0, 207), (123, .ifCond .ne 18, 3, 0, 0), (126, .aload_n 0, 1, 0, 0), (127, .iload_n 1, 1, 0, 0), (128, .iload_n 3, 1, 0, 0), (129, .invokevirtual 360, 3, 0, 264), (132, .ifCond .ne 9, 3, 0, 0), (135, .aload_n 0, 1, 0, 0), (136, .iload_n 1, 1, 0, 0), (137, .iload_n 3, 1, 0, 0), (138, .invokevirtual 363, 3, 0, 265), (141, .aload_n 0, 1, 0, 0), (142, .invokevirtual 404, 3, 0, 197), (145, .aload_n 0, 1, 0, 0), (146, .getfield 292, 3, 11, 18), (149, .ireturn, 1, 0, 0)]
/-- SerialGateModel.dooms(III)I -/
def mm_M290 : mm_M := (yX11_dooms, cX11_dooms, 4, (some .int), 11, false, [], [], mm_k290)
theorem mm_d290 : mm_k290.all (fun q => mm_deq (decode cX11_dooms q.1) q.2.1 q.2.2.1) = true := by decide +kernel
def mm_k291 : List mm_I := [(0, .aload_n 0, 1, 0, 0), (1, .iconst 0, 1, 0, 0), (2, .putfield 3, 3, 11, 0), (5, .iconst 0, 1, 0, 0), (6, .istore_n 1, 1, 0, 0), (7, .iconst 0, 1, 0, 0), (8, .istore_n 2, 1, 0, 0), (9, .iload_n 2, 1, 0, 0), (10, .bipush 8, 2, 0, 0), (12, .if_icmp .ge 36, 3, 0, 0), (15, .iload_n 1, 1, 0, 0), (16, .aload_n 0, 1, 0, 0), (17, .iload_n 2, 1, 0, 0), (18, .iconst 0, 1, 0, 0), (19, .invokevirtual 69, 3, 0, 204), (22, .ifCond .eq 17, 3, 0, 0), (25, .aload_n 0, 1, 0, 0), (26, .iload_n 2, 1, 0, 0), (27, .invokevirtual 263, 3, 0, 243), (30, .ifCond .eq 9, 3, 0, 0), (33, .iconst 1, 1, 0, 0), (34, .iload_n 2, 1, 0, 0), (35, .ishl, 1, 0, 0), (36, .goto 4, 3, 0, 0), (39, .iconst 0, 1, 0, 0), (40, .ior, 1, 0, 0), (41, .istore_n 1, 1, 0, 0), (42, .iinc 2 1, 3, 0, 0), (45, .goto (-36), 3, 0, 0), (48, .iload_n 1, 1, 0, 0), (49, .ireturn, 1, 0, 0)]
/-- SerialGateModel.pivots()I -/
def mm_M291 : mm_M := (yX11_pivots, cX11_pivots, 3, (some .int), 11, false, [], [], mm_k291)
theorem mm_d291 : mm_k291.all (fun q => mm_deq (decode cX11_pivots q.1) q.2.1 q.2.2.1) = true := by decide +kernel
def mm_k292 : List mm_I := [(0, .iconst 1, 1, 0, 0), (1, .istore_n 2, 1, 0, 0), (2, .iconst 0, 1, 0, 0), (3, .istore_n 3, 1, 0, 0), (4, .iload_n 3, 1, 0, 0), (5, .bipush 8, 2, 0, 0), (7, .if_icmp .ge 61, 3, 0, 0), (10, .iload_n 2, 1, 0, 0), (11, .ifCond .eq 57, 3, 0, 0), (14, .aload_n 0, 1, 0, 0), (15, .iload_n 3, 1, 0, 0), (16, .invokevirtual 75, 3, 0, 205), (19, .ifCond .eq 37, 3, 0, 0), (22, .iload_n 1, 1, 0, 0), (23, .iload_n 3, 1, 0, 0), (24, .invokestatic 79, 3, 0, 190), (27, .ifCond .ne 29, 3, 0, 0), (30, .aload_n 0, 1, 0, 0), (31, .iload_n 3, 1, 0, 0), (32, .invokevirtual 255, 3, 0, 211), (35, .iload_n 1, 1, 0, 0), (36, .iconst (-1), 1, 0, 0), (37, .ixor, 1, 0, 0), (38, .iand, 1, 0, 0), (39, .ifCond .eq 17, 3, 0, 0), (42, .aload_n 0, 1, 0, 0), (43, .iload_n 3, 1, 0, 0), (44, .bipush 7, 2, 0, 0), (46, .invokevirtual 69, 3, 0, 204), (49, .iload_n 1, 1, 0, 0), (50, .iconst (-1), 1, 0, 0), (51, .ixor, 1, 0, 0), (52, .iand, 1, 0, 0), (53, .ifCond .ne 7, 3, 0, 0), (56, .iconst 1, 1, 0, 0), (57, .goto 4, 3, 0, 0), (60, .iconst 0, 1, 0, 0), (61, .istore_n 2, 1, 0, 0), (62, .iinc 3 1, 3, 0, 0), (65, .goto (-61), 3, 0, 0), (68, .iload_n 2, 1, 0, 0), (69, .ireturn, 1, 0, 0)]
/-- SerialGateModel.isCut(I)Z -/
def mm_M292 : mm_M := (yX11_isCut, cX11_isCut, 4, (some .boolean), 11, false, [], [], mm_k292)
theorem mm_d292 : mm_k292.all (fun q => mm_deq (decode cX11_isCut q.1) q.2.1 q.2.2.1) = true := by decide +kernel
def mm_k293 : List mm_I := [(0, .aload_n 0, 1, 0, 0), (1, .iconst 0, 1, 0, 0), (2, .putfield 3, 3, 11, 0), (5, .aload_n 0, 1, 0, 0), (6, .iconst 1, 1, 0, 0), (7, .invokevirtual 313, 3, 0, 208), (10, .istore_n 1, 1, 0, 0), (11, .iload_n 1, 1, 0, 0), (12, .istore_n 2, 1, 0, 0), (13, .iload_n 1, 1, 0, 0), (14, .istore_n 3, 1, 0, 0), (15, .iload_n 3, 1, 0, 0), (16, .ifCond .lt 42, 3, 0, 0), (19, .iload_n 3, 1, 0, 0), (20, .iload_n 1, 1, 0, 0), (21, .iconst (-1), 1, 0, 0), (22, .ixor, 1, 0, 0), (23, .iand, 1, 0, 0), (24, .ifCond .ne 26, 3, 0, 0), (27, .iload_n 3, 1, 0, 0), (28, .invokestatic 258, 3, 0, 343), (31, .iload_n 2, 1, 0, 0), (32, .invokestatic 258, 3, 0, 343), (35, .if_icmp .gt 15, 3, 0, 0), (38, .aload_n 0, 1, 0, 0), (39, .iload_n 3, 1, 0, 0), (40, .invokevirtual 407, 3, 0, 292), (43, .ifCond .eq 7, 3, 0, 0), (46, .iload_n 3, 1, 0, 0), (47, .goto 4, 3, 0, 0), (50, .iload_n 2, 1, 0, 0), (51, .istore_n 2, 1, 0, 0), (52, .iinc 3 (-1), 3, 0, 0), (55, .goto (-40), 3, 0, 0), (58, .iload_n 2, 1, 0, 0), (59, .ireturn, 1, 0, 0)]
/-- SerialGateModel.cut()I -/
def mm_M293 : mm_M := (yX11_cut, cX11_cut, 4, (some .int), 11, false, [], [], mm_k293)
theorem mm_d293 : mm_k293.all (fun q => mm_deq (decode cX11_cut q.1) q.2.1 q.2.2.1) = true := by decide +kernel
def mm_k294 : List mm_I := [(0, .aload_n 0, 1, 0, 0), (1, .getfield 13, 3, 11, 1), (4, .aload_n 0, 1, 0, 0), (5, .iload_n 1, 1, 0, 0), (6, .invokevirtual 334, 3, 0, 266), (9, .iload_n 2, 1, 0, 0), (10, .iadd, 1, 0, 0), (11, .iaload, 1, 0, 0), (12, .ireturn, 1, 0, 0)]
/-- SerialGateModel.ofStory(II)I -/
def mm_M294 : mm_M := (yX11_ofStory, cX11_ofStory, 3, (some .int), 11, false, [], [], mm_k294)
theorem mm_d294 : mm_k294.all (fun q => mm_deq (decode cX11_ofStory q.1) q.2.1 q.2.2.1) = true := by decide +kernel
def mm_k295 : List mm_I := [(0, .aload_n 0, 1, 0, 0), (1, .iconst 0, 1, 0, 0), (2, .putfield 3, 3, 11, 0), (5, .aload_n 0, 1, 0, 0), (6, .iload_n 2, 1, 0, 0), (7, .iconst 0, 1, 0, 0), (8, .iconst 3, 1, 0, 0), (9, .invokestatic 371, 3, 0, 189), (12, .ifCond .ne 7, 3, 0, 0), (15, .iconst 1, 1, 0, 0), (16, .goto 4, 3, 0, 0), (19, .iconst 0, 1, 0, 0), (20, .iconst 1, 1, 0, 0), (21, .invokevirtual 249, 3, 0, 188), (24, .ifCond .eq 5, 3, 0, 0), (27, .iconst 0, 1, 0, 0), (28, .ireturn, 1, 0, 0), (29, .iload_n 1, 1, 0, 0), (30, .iconst 0, 1, 0, 0), (31, .aload_n 0, 1, 0, 0), (32, .getfield 13, 3, 11, 1), (35, .bipush 7, 2, 0, 0), (37, .iaload, 1, 0, 0), (38, .iconst 1, 1, 0, 0), (39, .isub, 1, 0, 0), (40, .invokestatic 371, 3, 0, 189), (43, .ifCond .eq 12, 3, 0, 0), (46, .aload_n 0, 1, 0, 0), (47, .iload_n 1, 1, 0, 0), (48, .iload_n 2, 1, 0, 0), (49, .invokevirtual 410, 3, 0, 294), (52, .goto 4, 3, 0, 0), (55, .iconst (-1), 1, 0, 0), (56, .ireturn, 1, 0, 0)]
/-- SerialGateModel.history(II)I -/
def mm_M295 : mm_M := (yX11_history, cX11_history, 3, (some .int), 11, false, [], [], mm_k295)
theorem mm_d295 : mm_k295.all (fun q => mm_deq (decode cX11_history q.1) q.2.1 q.2.2.1) = true := by decide +kernel
def mm_k296 : List mm_I := [(0, .aload_n 0, 1, 0, 0), (1, .iload_n 1, 1, 0, 0), (2, .iload_n 3, 1, 0, 0), (3, .ifCond .eq 7, 3, 0, 0), (6, .iconst 3, 1, 0, 0), (7, .goto 4, 3, 0, 0), (10, .iconst 2, 1, 0, 0), (11, .invokevirtual 410, 3, 0, 294), (14, .iload_n 2, 1, 0, 0), (15, .invokestatic 79, 3, 0, 190), (18, .ifCond .ne 5, 3, 0, 0), (21, .iconst (-1), 1, 0, 0), (22, .ireturn, 1, 0, 0), (23, .aload_n 0, 1, 0, 0), (24, .iload_n 1, 1, 0, 0), (25, .iload_n 3, 1, 0, 0), (26, .ifCond .eq 8, 3, 0, 0), (29, .bipush 14, 2, 0, 0), (31, .goto 4, 3, 0, 0), (34, .iconst 4, 1, 0, 0), (35, .iload_n 2, 1, 0, 0), (36, .iadd, 1, 0, 0), (37, .invokevirtual 410, 3, 0, 294), (40, .ireturn, 1, 0, 0)]
/-- SerialGateModel.versionIn(IIZ)I -/
def mm_M296 : mm_M := (yX11_versionIn, cX11_versionIn, 4, (some .int), 11, false, [], [], mm_k296)
theorem mm_d296 : mm_k296.all (fun q => mm_deq (decode cX11_versionIn q.1) q.2.1 q.2.2.1) = true := by decide +kernel
def mm_k297 : List mm_I := [(0, .aload_n 0, 1, 0, 0), (1, .iconst 0, 1, 0, 0), (2, .putfield 3, 3, 11, 0), (5, .aload_n 0, 1, 0, 0), (6, .iload_n 2, 1, 0, 0), (7, .invokestatic 377, 3, 0, 274), (10, .iconst 1, 1, 0, 0), (11, .invokevirtual 249, 3, 0, 188), (14, .ifCond .eq 5, 3, 0, 0), (17, .iconst 0, 1, 0, 0), (18, .ireturn, 1, 0, 0), (19, .iload_n 1, 1, 0, 0), (20, .iconst 0, 1, 0, 0), (21, .aload_n 0, 1, 0, 0), (22, .getfield 13, 3, 11, 1), (25, .bipush 7, 2, 0, 0), (27, .iaload, 1, 0, 0), (28, .iconst 1, 1, 0, 0), (29, .isub, 1, 0, 0), (30, .invokestatic 371, 3, 0, 189), (33, .ifCond .eq 13, 3, 0, 0), (36, .aload_n 0, 1, 0, 0), (37, .iload_n 1, 1, 0, 0), (38, .iload_n 2, 1, 0, 0), (39, .iload_n 3, 1, 0, 0), (40, .invokevirtual 413, 3, 0, 296), (43, .goto 4, 3, 0, 0), (46, .iconst (-1), 1, 0, 0), (47, .ireturn, 1, 0, 0)]
/-- SerialGateModel.version(IIZ)I -/
def mm_M297 : mm_M := (yX11_version, cX11_version, 4, (some .int), 11, false, [], [], mm_k297)
theorem mm_d297 : mm_k297.all (fun q => mm_deq (decode cX11_version q.1) q.2.1 q.2.2.1) = true := by decide +kernel
def mm_k298 : List mm_I := [(0, .iconst 0, 1, 0, 0), (1, .istore_n 3, 1, 0, 0), (2, .iconst 0, 1, 0, 0), (3, .istore 4, 2, 0, 0), (5, .iload 4, 2, 0, 0), (7, .bipush 10, 2, 0, 0), (9, .if_icmp .ge 98, 3, 0, 0), (12, .iload_n 3, 1, 0, 0), (13, .ifCond .ne 94, 3, 0, 0), (16, .aload_n 0, 1, 0, 0), (17, .iload_n 1, 1, 0, 0), (18, .iload 4, 2, 0, 0), (20, .iconst 1, 1, 0, 0), (21, .invokevirtual 413, 3, 0, 296), (24, .istore 5, 2, 0, 0), (26, .aload_n 0, 1, 0, 0), (27, .iload_n 1, 1, 0, 0), (28, .iload 4, 2, 0, 0), (30, .iconst 0, 1, 0, 0), (31, .invokevirtual 413, 3, 0, 296), (34, .istore 6, 2, 0, 0), (36, .aload_n 0, 1, 0, 0), (37, .iload_n 2, 1, 0, 0), (38, .iload 4, 2, 0, 0), (40, .iconst 1, 1, 0, 0), (41, .invokevirtual 413, 3, 0, 296), (44, .istore 7, 2, 0, 0), (46, .aload_n 0, 1, 0, 0), (47, .iload_n 2, 1, 0, 0), (48, .iload 4, 2, 0, 0), (50, .iconst 0, 1, 0, 0), (51, .invokevirtual 413, 3, 0, 296), (54, .istore 8, 2, 0, 0), (56, .iload 5, 2, 0, 0), (58, .iconst (-1), 1, 0, 0), (59, .if_icmp .eq 10, 3, 0, 0), (62, .iload 8, 2, 0, 0), (64, .iload 5, 2, 0, 0), (66, .if_icmp .ge 29, 3, 0, 0), (69, .iload 6, 2, 0, 0), (71, .iconst (-1), 1, 0, 0), (72, .if_icmp .eq 10, 3, 0, 0), (75, .iload 7, 2, 0, 0), (77, .iload 6, 2, 0, 0), (79, .if_icmp .gt 16, 3, 0, 0), (82, .iload 5, 2, 0, 0), (84, .iconst (-1), 1, 0, 0), (85, .if_icmp .eq 14, 3, 0, 0), (88, .iload 7, 2, 0, 0), (90, .iload 5, 2, 0, 0), (92, .if_icmp .le 7, 3, 0, 0), (95, .iconst 1, 1, 0, 0), (96, .goto 4, 3, 0, 0), (99, .iconst 0, 1, 0, 0), (100, .istore_n 3, 1, 0, 0), (101, .iinc 4 1, 3, 0, 0), (104, .goto (-99), 3, 0, 0), (107, .iload_n 1, 1, 0, 0), (108, .iload_n 2, 1, 0, 0), (109, .if_icmp .eq 11, 3, 0, 0), (112, .iload_n 3, 1, 0, 0), (113, .ifCond .eq 7, 3, 0, 0), (116, .iconst 1, 1, 0, 0), (117, .goto 4, 3, 0, 0), (120, .iconst 0, 1, 0, 0), (121, .ireturn, 1, 0, 0)]
/-- SerialGateModel.mustBeAhead(II)Z -/
def mm_M298 : mm_M := (yX11_mustBeAhead, cX11_mustBeAhead, 9, (some .boolean), 11, false, [], [], mm_k298)
theorem mm_d298 : mm_k298.all (fun q => mm_deq (decode cX11_mustBeAhead q.1) q.2.1 q.2.2.1) = true := by decide +kernel
def mm_k299 : List mm_I := [(0, .iconst (-1), 1, 0, 0), (1, .istore_n 2, 1, 0, 0), (2, .bipush 11, 2, 0, 0), (4, .istore_n 3, 1, 0, 0), (5, .iload_n 3, 1, 0, 0), (6, .ifCond .lt 79, 3, 0, 0), (9, .iload_n 1, 1, 0, 0), (10, .iload_n 3, 1, 0, 0), (11, .invokestatic 79, 3, 0, 190), (14, .istore 4, 2, 0, 0), (16, .iconst 0, 1, 0, 0), (17, .istore 5, 2, 0, 0), (19, .iload 5, 2, 0, 0), (21, .aload_n 0, 1, 0, 0), (22, .getfield 13, 3, 11, 1), (25, .bipush 7, 2, 0, 0), (27, .iaload, 1, 0, 0), (28, .if_icmp .ge 40, 3, 0, 0), (31, .iload 4, 2, 0, 0), (33, .ifCond .eq 35, 3, 0, 0), (36, .iload_n 1, 1, 0, 0), (37, .iload 5, 2, 0, 0), (39, .invokestatic 79, 3, 0, 190), (42, .ifCond .eq 13, 3, 0, 0), (45, .aload_n 0, 1, 0, 0), (46, .iload 5, 2, 0, 0), (48, .iload_n 3, 1, 0, 0), (49, .invokevirtual 417, 3, 0, 298), (52, .ifCond .ne 7, 3, 0, 0), (55, .iconst 1, 1, 0, 0), (56, .goto 4, 3, 0, 0), (59, .iconst 0, 1, 0, 0), (60, .istore 4, 2, 0, 0), (62, .iinc 5 1, 3, 0, 0), (65, .goto (-46), 3, 0, 0), (68, .iload 4, 2, 0, 0), (70, .ifCond .eq 7, 3, 0, 0), (73, .iload_n 3, 1, 0, 0), (74, .goto 4, 3, 0, 0), (77, .iload_n 2, 1, 0, 0), (78, .istore_n 2, 1, 0, 0), (79, .iinc 3 (-1), 3, 0, 0), (82, .goto (-77), 3, 0, 0), (85, .iload_n 2, 1, 0, 0), (86, .ireturn, 1, 0, 0)]
/-- SerialGateModel.nextRow(I)I -/
def mm_M299 : mm_M := (yX11_nextRow, cX11_nextRow, 6, (some .int), 11, false, [], [], mm_k299)
theorem mm_d299 : mm_k299.all (fun q => mm_deq (decode cX11_nextRow q.1) q.2.1 q.2.2.1) = true := by decide +kernel
end
section
def mm_k300 : List mm_I := [(0, .aload_n 0, 1, 0, 0), (1, .iconst 0, 1, 0, 0), (2, .putfield 3, 3, 11, 0), (5, .iload_n 1, 1, 0, 0), (6, .iconst 0, 1, 0, 0), (7, .aload_n 0, 1, 0, 0), (8, .getfield 13, 3, 11, 1), (11, .bipush 7, 2, 0, 0), (13, .iaload, 1, 0, 0), (14, .iconst 1, 1, 0, 0), (15, .isub, 1, 0, 0), (16, .invokestatic 371, 3, 0, 189), (19, .ifCond .ne 5, 3, 0, 0), (22, .iconst (-1), 1, 0, 0), (23, .ireturn, 1, 0, 0), (24, .iconst 1, 1, 0, 0), (25, .aload_n 0, 1, 0, 0), (26, .getfield 13, 3, 11, 1), (29, .bipush 7, 2, 0, 0), (31, .iaload, 1, 0, 0), (32, .ishl, 1, 0, 0), (33, .iconst 1, 1, 0, 0), (34, .isub, 1, 0, 0), (35, .istore_n 2, 1, 0, 0), (36, .aload_n 0, 1, 0, 0), (37, .iload_n 2, 1, 0, 0), (38, .invokevirtual 420, 3, 0, 299), (41, .istore_n 3, 1, 0, 0), (42, .iconst 0, 1, 0, 0), (43, .istore 4, 2, 0, 0), (45, .iload 4, 2, 0, 0), (47, .iload_n 1, 1, 0, 0), (48, .if_icmp .ge 28, 3, 0, 0), (51, .iload_n 3, 1, 0, 0), (52, .iconst (-1), 1, 0, 0), (53, .if_icmp .eq 23, 3, 0, 0), (56, .iload_n 2, 1, 0, 0), (57, .iconst 1, 1, 0, 0), (58, .iload_n 3, 1, 0, 0), (59, .ishl, 1, 0, 0), (60, .iconst (-1), 1, 0, 0), (61, .ixor, 1, 0, 0), (62, .iand, 1, 0, 0), (63, .istore_n 2, 1, 0, 0), (64, .aload_n 0, 1, 0, 0), (65, .iload_n 2, 1, 0, 0), (66, .invokevirtual 420, 3, 0, 299), (69, .istore_n 3, 1, 0, 0), (70, .iinc 4 1, 3, 0, 0), (73, .goto (-28), 3, 0, 0), (76, .iload_n 3, 1, 0, 0), (77, .ireturn, 1, 0, 0)]
/-- SerialGateModel.serial(I)I -/
def mm_M300 : mm_M := (yX11_serial, cX11_serial, 5, (some .int), 11, false, [], [], mm_k300)
theorem mm_d300 : mm_k300.all (fun q => mm_deq (decode cX11_serial q.1) q.2.1 q.2.2.1) = true := by decide +kernel
def mm_k301 : List mm_I := [(0, .aload_n 0, 1, 0, 0), (1, .iload_n 1, 1, 0, 0), (2, .iconst 0, 1, 0, 0), (3, .invokevirtual 72, 3, 0, 202), (6, .aload_n 0, 1, 0, 0), (7, .iload_n 1, 1, 0, 0), (8, .iconst 1, 1, 0, 0), (9, .invokevirtual 72, 3, 0, 202), (12, .ior, 1, 0, 0), (13, .ireturn, 1, 0, 0)]
/-- SerialGateModel.usedBy(I)I -/
def mm_M301 : mm_M := (yX11_usedBy, cX11_usedBy, 2, (some .int), 11, false, [], [], mm_k301)
theorem mm_d301 : mm_k301.all (fun q => mm_deq (decode cX11_usedBy q.1) q.2.1 q.2.2.1) = true := by decide +kernel
def mm_k302 : List mm_I := [(0, .aload_n 0, 1, 0, 0), (1, .iload_n 1, 1, 0, 0), (2, .iconst 1, 1, 0, 0), (3, .invokevirtual 72, 3, 0, 202), (6, .aload_n 0, 1, 0, 0), (7, .iload_n 2, 1, 0, 0), (8, .invokevirtual 423, 3, 0, 301), (11, .iand, 1, 0, 0), (12, .aload_n 0, 1, 0, 0), (13, .iload_n 2, 1, 0, 0), (14, .iconst 1, 1, 0, 0), (15, .invokevirtual 72, 3, 0, 202), (18, .aload_n 0, 1, 0, 0), (19, .iload_n 1, 1, 0, 0), (20, .invokevirtual 423, 3, 0, 301), (23, .iand, 1, 0, 0), (24, .ior, 1, 0, 0), (25, .ifCond .eq 7, 3, 0, 0), (28, .iconst 1, 1, 0, 0), (29, .goto 4, 3, 0, 0), (32, .iconst 0, 1, 0, 0), (33, .ireturn, 1, 0, 0)]
/-- SerialGateModel.doClash(II)Z -/
def mm_M302 : mm_M := (yX11_doClash, cX11_doClash, 3, (some .boolean), 11, false, [], [], mm_k302)
theorem mm_d302 : mm_k302.all (fun q => mm_deq (decode cX11_doClash q.1) q.2.1 q.2.2.1) = true := by decide +kernel
def mm_k303 : List mm_I := [(0, .aload_n 0, 1, 0, 0), (1, .iconst 0, 1, 0, 0), (2, .putfield 3, 3, 11, 0), (5, .aload_n 0, 1, 0, 0), (6, .aload_n 0, 1, 0, 0), (7, .iload_n 1, 1, 0, 0), (8, .invokevirtual 380, 3, 0, 275), (11, .ifCond .ne 11, 3, 0, 0), (14, .aload_n 0, 1, 0, 0), (15, .iload_n 2, 1, 0, 0), (16, .invokevirtual 380, 3, 0, 275), (19, .ifCond .eq 7, 3, 0, 0), (22, .iconst 1, 1, 0, 0), (23, .goto 4, 3, 0, 0), (26, .iconst 0, 1, 0, 0), (27, .iconst 1, 1, 0, 0), (28, .invokevirtual 249, 3, 0, 188), (31, .ifCond .ne 21, 3, 0, 0), (34, .aload_n 0, 1, 0, 0), (35, .iload_n 1, 1, 0, 0), (36, .iload_n 2, 1, 0, 0), (37, .if_icmp .ne 7, 3, 0, 0), (40, .iconst 1, 1, 0, 0), (41, .goto 4, 3, 0, 0), (44, .iconst 0, 1, 0, 0), (45, .iconst 2, 1, 0, 0), (46, .invokevirtual 249, 3, 0, 188), (49, .ifCond .eq 7, 3, 0, 0), (52, .iconst 1, 1, 0, 0), (53, .goto 4, 3, 0, 0), (56, .iconst 0, 1, 0, 0), (57, .ireturn, 1, 0, 0)]
/-- SerialGateModel.noTwo(II)Z -/
def mm_M303 : mm_M := (yX11_noTwo, cX11_noTwo, 3, (some .boolean), 11, false, [], [], mm_k303)
theorem mm_d303 : mm_k303.all (fun q => mm_deq (decode cX11_noTwo q.1) q.2.1 q.2.2.1) = true := by decide +kernel
def mm_k304 : List mm_I := [(0, .aload_n 0, 1, 0, 0), (1, .iload_n 1, 1, 0, 0), (2, .iload_n 2, 1, 0, 0), (3, .invokevirtual 426, 3, 0, 303), (6, .ifCond .ne 16, 3, 0, 0), (9, .aload_n 0, 1, 0, 0), (10, .iload_n 1, 1, 0, 0), (11, .iload_n 2, 1, 0, 0), (12, .invokevirtual 429, 3, 0, 302), (15, .ifCond .eq 7, 3, 0, 0), (18, .iconst 1, 1, 0, 0), (19, .goto 4, 3, 0, 0), (22, .iconst 0, 1, 0, 0), (23, .ireturn, 1, 0, 0)]
/-- SerialGateModel.clash(II)Z -/
def mm_M304 : mm_M := (yX11_clash, cX11_clash, 3, (some .boolean), 11, false, [], [], mm_k304)
theorem mm_d304 : mm_k304.all (fun q => mm_deq (decode cX11_clash q.1) q.2.1 q.2.2.1) = true := by decide +kernel
def mm_k305 : List mm_I := [(0, .iconst 1, 1, 0, 0), (1, .istore_n 2, 1, 0, 0), (2, .iconst 0, 1, 0, 0), (3, .istore_n 3, 1, 0, 0), (4, .iload_n 3, 1, 0, 0), (5, .aload_n 0, 1, 0, 0), (6, .invokevirtual 129, 3, 0, 198), (9, .if_icmp .ge 61, 3, 0, 0), (12, .iconst 0, 1, 0, 0), (13, .istore 4, 2, 0, 0), (15, .iload 4, 2, 0, 0), (17, .iload_n 3, 1, 0, 0), (18, .if_icmp .ge 46, 3, 0, 0), (21, .iload_n 2, 1, 0, 0), (22, .ifCond .eq 34, 3, 0, 0), (25, .iload_n 1, 1, 0, 0), (26, .iload_n 3, 1, 0, 0), (27, .invokestatic 79, 3, 0, 190), (30, .ifCond .eq 22, 3, 0, 0), (33, .iload_n 1, 1, 0, 0), (34, .iload 4, 2, 0, 0), (36, .invokestatic 79, 3, 0, 190), (39, .ifCond .eq 13, 3, 0, 0), (42, .aload_n 0, 1, 0, 0), (43, .iload_n 3, 1, 0, 0), (44, .iload 4, 2, 0, 0), (46, .invokevirtual 429, 3, 0, 302), (49, .ifCond .ne 7, 3, 0, 0), (52, .iconst 1, 1, 0, 0), (53, .goto 4, 3, 0, 0), (56, .iconst 0, 1, 0, 0), (57, .istore_n 2, 1, 0, 0), (58, .iinc 4 1, 3, 0, 0), (61, .goto (-46), 3, 0, 0), (64, .iinc 3 1, 3, 0, 0), (67, .goto (-63), 3, 0, 0), (70, .iload_n 2, 1, 0, 0), (71, .ireturn, 1, 0, 0)]
/-- SerialGateModel.noneClash(I)Z -/
def mm_M305 : mm_M := (yX11_noneClash, cX11_noneClash, 5, (some .boolean), 11, false, [], [], mm_k305)
theorem mm_d305 : mm_k305.all (fun q => mm_deq (decode cX11_noneClash q.1) q.2.1 q.2.2.1) = true := by decide +kernel
def mm_k306 : List mm_I := [(0, .aload_n 0, 1, 0, 0), (1, .iconst 0, 1, 0, 0), (2, .putfield 3, 3, 11, 0), (5, .iconst 0, 1, 0, 0), (6, .istore_n 1, 1, 0, 0), (7, .iconst 1, 1, 0, 0), (8, .istore_n 2, 1, 0, 0), (9, .iload_n 2, 1, 0, 0), (10, .iconst 1, 1, 0, 0), (11, .aload_n 0, 1, 0, 0), (12, .invokevirtual 129, 3, 0, 198), (15, .ishl, 1, 0, 0), (16, .if_icmp .ge 34, 3, 0, 0), (19, .iload_n 2, 1, 0, 0), (20, .invokestatic 258, 3, 0, 343), (23, .iload_n 1, 1, 0, 0), (24, .invokestatic 258, 3, 0, 343), (27, .if_icmp .le 15, 3, 0, 0), (30, .aload_n 0, 1, 0, 0), (31, .iload_n 2, 1, 0, 0), (32, .invokevirtual 432, 3, 0, 305), (35, .ifCond .eq 7, 3, 0, 0), (38, .iload_n 2, 1, 0, 0), (39, .goto 4, 3, 0, 0), (42, .iload_n 1, 1, 0, 0), (43, .istore_n 1, 1, 0, 0), (44, .iinc 2 1, 3, 0, 0), (47, .goto (-38), 3, 0, 0), (50, .iload_n 1, 1, 0, 0), (51, .ireturn, 1, 0, 0)]
/-- SerialGateModel.apart()I -/
def mm_M306 : mm_M := (yX11_apart, cX11_apart, 3, (some .int), 11, false, [], [], mm_k306)
theorem mm_d306 : mm_k306.all (fun q => mm_deq (decode cX11_apart q.1) q.2.1 q.2.2.1) = true := by decide +kernel
def mm_k307 : List mm_I := [(0, .iload_n 1, 1, 0, 0), (1, .istore_n 3, 1, 0, 0), (2, .iconst 0, 1, 0, 0), (3, .istore 4, 2, 0, 0), (5, .iconst 1, 1, 0, 0), (6, .istore 5, 2, 0, 0), (8, .aload_n 0, 1, 0, 0), (9, .invokevirtual 129, 3, 0, 198), (12, .iconst 1, 1, 0, 0), (13, .isub, 1, 0, 0), (14, .istore 6, 2, 0, 0), (16, .iload 6, 2, 0, 0), (18, .ifCond .lt 23, 3, 0, 0), (21, .aload_n 0, 1, 0, 0), (22, .getfield 42, 3, 11, 19), (25, .iload 6, 2, 0, 0), (27, .iload_n 3, 1, 0, 0), (28, .iconst 5, 1, 0, 0), (29, .irem, 1, 0, 0), (30, .iastore, 1, 0, 0), (31, .iload_n 3, 1, 0, 0), (32, .iconst 5, 1, 0, 0), (33, .idiv, 1, 0, 0), (34, .istore_n 3, 1, 0, 0), (35, .iinc 6 (-1), 3, 0, 0), (38, .goto (-22), 3, 0, 0), (41, .iconst 0, 1, 0, 0), (42, .istore 6, 2, 0, 0), (44, .iload 6, 2, 0, 0), (46, .aload_n 0, 1, 0, 0), (47, .invokevirtual 129, 3, 0, 198), (50, .if_icmp .ge 116, 3, 0, 0), (53, .iload 5, 2, 0, 0), (55, .ifCond .eq 111, 3, 0, 0), (58, .aload_n 0, 1, 0, 0), (59, .getfield 42, 3, 11, 19), (62, .iload 6, 2, 0, 0), (64, .iaload, 1, 0, 0), (65, .iload 4, 2, 0, 0), (67, .if_icmp .gt 18, 3, 0, 0), (70, .aload_n 0, 1, 0, 0), (71, .getfield 42, 3, 11, 19), (74, .iload 6, 2, 0, 0), (76, .iaload, 1, 0, 0), (77, .iload_n 2, 1, 0, 0), (78, .if_icmp .ge 7, 3, 0, 0), (81, .iconst 1, 1, 0, 0), (82, .goto 4, 3, 0, 0), (85, .iconst 0, 1, 0, 0), (86, .istore 5, 2, 0, 0), (88, .iload 4, 2, 0, 0), (90, .aload_n 0, 1, 0, 0), (91, .getfield 42, 3, 11, 19), (94, .iload 6, 2, 0, 0), (96, .iaload, 1, 0, 0), (97, .iconst 1, 1, 0, 0), (98, .iadd, 1, 0, 0), (99, .invokestatic 276, 3, 0, 344), (102, .istore 4, 2, 0, 0), (104, .iconst 0, 1, 0, 0), (105, .istore 7, 2, 0, 0), (107, .iload 7, 2, 0, 0), (109, .iload 6, 2, 0, 0), (111, .if_icmp .ge 49, 3, 0, 0), (114, .iload 5, 2, 0, 0), (116, .ifCond .eq 44, 3, 0, 0), (119, .aload_n 0, 1, 0, 0), (120, .getfield 42, 3, 11, 19), (123, .iload 7, 2, 0, 0), (125, .iaload, 1, 0, 0), (126, .aload_n 0, 1, 0, 0), (127, .getfield 42, 3, 11, 19), (130, .iload 6, 2, 0, 0), (132, .iaload, 1, 0, 0), (133, .if_icmp .ne 14, 3, 0, 0), (136, .aload_n 0, 1, 0, 0), (137, .iload 7, 2, 0, 0), (139, .iload 6, 2, 0, 0), (141, .invokevirtual 429, 3, 0, 302), (144, .ifCond .ne 7, 3, 0, 0), (147, .iconst 1, 1, 0, 0), (148, .goto 4, 3, 0, 0), (151, .iconst 0, 1, 0, 0), (152, .istore 5, 2, 0, 0), (154, .iinc 7 1, 3, 0, 0), (157, .goto (-50), 3, 0, 0), (160, .iinc 6 1, 3, 0, 0), (163, .goto (-119), 3, 0, 0), (166, .iload 5, 2, 0, 0), (168, .ireturn, 1, 0, 0)]
/-- SerialGateModel.areRounds(II)Z -/
def mm_M307 : mm_M := (yX11_areRounds, cX11_areRounds, 8, (some .boolean), 11, false, [], [], mm_k307)
theorem mm_d307 : mm_k307.all (fun q => mm_deq (decode cX11_areRounds q.1) q.2.1 q.2.2.1) = true := by decide +kernel
def mm_k308 : List mm_I := [(0, .iconst 1, 1, 0, 0), (1, .istore_n 1, 1, 0, 0), (2, .iconst 0, 1, 0, 0), (3, .istore_n 2, 1, 0, 0), (4, .iload_n 2, 1, 0, 0), (5, .aload_n 0, 1, 0, 0), (6, .invokevirtual 129, 3, 0, 198), (9, .if_icmp .ge 13, 3, 0, 0), (12, .iload_n 1, 1, 0, 0), (13, .iconst 5, 1, 0, 0), (14, .imul, 1, 0, 0), (15, .istore_n 1, 1, 0, 0), (16, .iinc 2 1, 3, 0, 0), (19, .goto (-15), 3, 0, 0), (22, .aload_n 0, 1, 0, 0), (23, .iconst 0, 1, 0, 0), (24, .putfield 435, 3, 11, 20), (27, .aload_n 0, 1, 0, 0), (28, .invokevirtual 129, 3, 0, 198), (31, .ifCond .ne 7, 3, 0, 0), (34, .iconst 1, 1, 0, 0), (35, .goto 4, 3, 0, 0), (38, .iconst 0, 1, 0, 0), (39, .istore_n 2, 1, 0, 0), (40, .iload_n 2, 1, 0, 0), (41, .ifCond .ne 43, 3, 0, 0), (44, .aload_n 0, 1, 0, 0), (45, .dup, 1, 0, 0), (46, .getfield 435, 3, 11, 20), (49, .iconst 1, 1, 0, 0), (50, .iadd, 1, 0, 0), (51, .putfield 435, 3, 11, 20), (54, .iconst 0, 1, 0, 0), (55, .istore_n 3, 1, 0, 0), (56, .iload_n 3, 1, 0, 0), (57, .iload_n 1, 1, 0, 0), (58, .if_icmp .ge 23, 3, 0, 0), (61, .iload_n 2, 1, 0, 0), (62, .ifCond .ne 19, 3, 0, 0), (65, .aload_n 0, 1, 0, 0), (66, .iload_n 3, 1, 0, 0), (67, .aload_n 0, 1, 0, 0), (68, .getfield 435, 3, 11, 20), (71, .invokevirtual 438, 3, 0, 307), (74, .istore_n 2, 1, 0, 0), (75, .iinc 3 1, 3, 0, 0), (78, .goto (-22), 3, 0, 0), (81, .goto (-41), 3, 0, 0), (84, .return_, 1, 0, 0)]
/-- SerialGateModel.laysRounds()V -/
def mm_M308 : mm_M := (yX11_laysRounds, cX11_laysRounds, 4, none, 11, false, [], [], mm_k308)
theorem mm_d308 : mm_k308.all (fun q => mm_deq (decode cX11_laysRounds q.1) q.2.1 q.2.2.1) = true := by decide +kernel
def mm_k309 : List mm_I := [(0, .aload_n 0, 1, 0, 0), (1, .iconst 0, 1, 0, 0), (2, .putfield 3, 3, 11, 0), (5, .aload_n 0, 1, 0, 0), (6, .invokevirtual 383, 3, 0, 308), (9, .aload_n 0, 1, 0, 0), (10, .getfield 435, 3, 11, 20), (13, .ireturn, 1, 0, 0)]
/-- SerialGateModel.rounds()I -/
def mm_M309 : mm_M := (yX11_rounds, cX11_rounds, 1, (some .int), 11, false, [], [], mm_k309)
theorem mm_d309 : mm_k309.all (fun q => mm_deq (decode cX11_rounds q.1) q.2.1 q.2.2.1) = true := by decide +kernel
def mm_k310 : List mm_I := [(0, .iconst 1, 1, 0, 0), (1, .istore_n 2, 1, 0, 0), (2, .iconst 0, 1, 0, 0), (3, .istore_n 3, 1, 0, 0), (4, .iload_n 3, 1, 0, 0), (5, .aload_n 0, 1, 0, 0), (6, .invokevirtual 129, 3, 0, 198), (9, .if_icmp .ge 37, 3, 0, 0), (12, .iload_n 2, 1, 0, 0), (13, .ifCond .eq 33, 3, 0, 0), (16, .aload_n 0, 1, 0, 0), (17, .iload_n 3, 1, 0, 0), (18, .invokevirtual 423, 3, 0, 301), (21, .ifCond .eq 13, 3, 0, 0), (24, .aload_n 0, 1, 0, 0), (25, .iload_n 3, 1, 0, 0), (26, .invokevirtual 423, 3, 0, 301), (29, .iload_n 1, 1, 0, 0), (30, .iand, 1, 0, 0), (31, .ifCond .eq 7, 3, 0, 0), (34, .iconst 1, 1, 0, 0), (35, .goto 4, 3, 0, 0), (38, .iconst 0, 1, 0, 0), (39, .istore_n 2, 1, 0, 0), (40, .iinc 3 1, 3, 0, 0), (43, .goto (-39), 3, 0, 0), (46, .iload_n 2, 1, 0, 0), (47, .ireturn, 1, 0, 0)]
/-- SerialGateModel.isCover(I)Z -/
def mm_M310 : mm_M := (yX11_isCover, cX11_isCover, 4, (some .boolean), 11, false, [], [], mm_k310)
theorem mm_d310 : mm_k310.all (fun q => mm_deq (decode cX11_isCover q.1) q.2.1 q.2.2.1) = true := by decide +kernel
def mm_k311 : List mm_I := [(0, .aload_n 0, 1, 0, 0), (1, .iconst 0, 1, 0, 0), (2, .putfield 3, 3, 11, 0), (5, .iconst (-1), 1, 0, 0), (6, .istore_n 1, 1, 0, 0), (7, .iconst 0, 1, 0, 0), (8, .istore_n 2, 1, 0, 0), (9, .iload_n 2, 1, 0, 0), (10, .sipush 1024, 3, 0, 0), (13, .if_icmp .ge 39, 3, 0, 0), (16, .iload_n 1, 1, 0, 0), (17, .iconst (-1), 1, 0, 0), (18, .if_icmp .eq 14, 3, 0, 0), (21, .iload_n 2, 1, 0, 0), (22, .invokestatic 258, 3, 0, 343), (25, .iload_n 1, 1, 0, 0), (26, .invokestatic 258, 3, 0, 343), (29, .if_icmp .ge 15, 3, 0, 0), (32, .aload_n 0, 1, 0, 0), (33, .iload_n 2, 1, 0, 0), (34, .invokevirtual 441, 3, 0, 310), (37, .ifCond .eq 7, 3, 0, 0), (40, .iload_n 2, 1, 0, 0), (41, .goto 4, 3, 0, 0), (44, .iload_n 1, 1, 0, 0), (45, .istore_n 1, 1, 0, 0), (46, .iinc 2 1, 3, 0, 0), (49, .goto (-40), 3, 0, 0), (52, .iload_n 1, 1, 0, 0), (53, .ireturn, 1, 0, 0)]
/-- SerialGateModel.cover()I -/
def mm_M311 : mm_M := (yX11_cover, cX11_cover, 3, (some .int), 11, false, [], [], mm_k311)
theorem mm_d311 : mm_k311.all (fun q => mm_deq (decode cX11_cover q.1) q.2.1 q.2.2.1) = true := by decide +kernel
def mm_k312 : List mm_I := [(0, .aload_n 0, 1, 0, 0), (1, .getfield 90, 3, 11, 11), (4, .iconst 2, 1, 0, 0), (5, .irem, 1, 0, 0), (6, .ifCond .ne 16, 3, 0, 0), (9, .aload_n 0, 1, 0, 0), (10, .getfield 90, 3, 11, 11), (13, .bipush 40, 2, 0, 0), (15, .if_icmp .gt 7, 3, 0, 0), (18, .iconst 1, 1, 0, 0), (19, .goto 4, 3, 0, 0), (22, .iconst 0, 1, 0, 0), (23, .istore_n 1, 1, 0, 0), (24, .iconst 0, 1, 0, 0), (25, .istore_n 2, 1, 0, 0), (26, .iload_n 2, 1, 0, 0), (27, .aload_n 0, 1, 0, 0), (28, .getfield 90, 3, 11, 11), (31, .if_icmp .ge 50, 3, 0, 0), (34, .iload_n 1, 1, 0, 0), (35, .ifCond .eq 46, 3, 0, 0), (38, .aload_n 0, 1, 0, 0), (39, .getfield 29, 3, 11, 8), (42, .iload_n 2, 1, 0, 0), (43, .baload, 1, 0, 0), (44, .iconst 0, 1, 0, 0), (45, .bipush 19, 2, 0, 0), (47, .invokestatic 371, 3, 0, 189), (50, .ifCond .eq 23, 3, 0, 0), (53, .aload_n 0, 1, 0, 0), (54, .getfield 29, 3, 11, 8), (57, .iload_n 2, 1, 0, 0), (58, .iconst 1, 1, 0, 0), (59, .iadd, 1, 0, 0), (60, .baload, 1, 0, 0), (61, .iconst 0, 1, 0, 0), (62, .iconst 1, 1, 0, 0), (63, .invokestatic 371, 3, 0, 189), (66, .ifCond .eq 7, 3, 0, 0), (69, .iconst 1, 1, 0, 0), (70, .goto 4, 3, 0, 0), (73, .iconst 0, 1, 0, 0), (74, .istore_n 1, 1, 0, 0), (75, .iinc 2 2, 3, 0, 0), (78, .goto (-52), 3, 0, 0), (81, .iload_n 1, 1, 0, 0), (82, .ireturn, 1, 0, 0)]
/-- SerialGateModel.areTold()Z -/
def mm_M312 : mm_M := (yX11_areTold, cX11_areTold, 3, (some .boolean), 11, false, [], [], mm_k312)
theorem mm_d312 : mm_k312.all (fun q => mm_deq (decode cX11_areTold q.1) q.2.1 q.2.2.1) = true := by decide +kernel
def mm_k313 : List mm_I := [(0, .aload_n 0, 1, 0, 0), (1, .iload_n 1, 1, 0, 0), (2, .iload_n 2, 1, 0, 0), (3, .bipush 10, 2, 0, 0), (5, .idiv, 1, 0, 0), (6, .invokevirtual 72, 3, 0, 202), (9, .iload_n 2, 1, 0, 0), (10, .bipush 10, 2, 0, 0), (12, .irem, 1, 0, 0), (13, .ishr, 1, 0, 0), (14, .iconst 1, 1, 0, 0), (15, .iand, 1, 0, 0), (16, .ireturn, 1, 0, 0)]
/-- SerialGateModel.does(II)I -/
def mm_M313 : mm_M := (yX11_does, cX11_does, 3, (some .int), 11, false, [], [], mm_k313)
theorem mm_d313 : mm_k313.all (fun q => mm_deq (decode cX11_does q.1) q.2.1 q.2.2.1) = true := by decide +kernel
def mm_k314 : List mm_I := [(0, .iconst 0, 1, 0, 0), (1, .istore_n 2, 1, 0, 0), (2, .iconst 0, 1, 0, 0), (3, .istore_n 3, 1, 0, 0), (4, .iload_n 3, 1, 0, 0), (5, .aload_n 0, 1, 0, 0), (6, .getfield 90, 3, 11, 11), (9, .if_icmp .ge 39, 3, 0, 0), (12, .iload_n 2, 1, 0, 0), (13, .aload_n 0, 1, 0, 0), (14, .iload_n 1, 1, 0, 0), (15, .aload_n 0, 1, 0, 0), (16, .getfield 29, 3, 11, 8), (19, .iload_n 3, 1, 0, 0), (20, .baload, 1, 0, 0), (21, .invokevirtual 444, 3, 0, 313), (24, .aload_n 0, 1, 0, 0), (25, .getfield 29, 3, 11, 8), (28, .iload_n 3, 1, 0, 0), (29, .iconst 1, 1, 0, 0), (30, .iadd, 1, 0, 0), (31, .baload, 1, 0, 0), (32, .if_icmp .ne 7, 3, 0, 0), (35, .iconst 0, 1, 0, 0), (36, .goto 4, 3, 0, 0), (39, .iconst 1, 1, 0, 0), (40, .iadd, 1, 0, 0), (41, .istore_n 2, 1, 0, 0), (42, .iinc 3 2, 3, 0, 0), (45, .goto (-41), 3, 0, 0), (48, .iload_n 2, 1, 0, 0), (49, .ireturn, 1, 0, 0)]
/-- SerialGateModel.wrongRows(I)I -/
def mm_M314 : mm_M := (yX11_wrongRows, cX11_wrongRows, 4, (some .int), 11, false, [], [], mm_k314)
theorem mm_d314 : mm_k314.all (fun q => mm_deq (decode cX11_wrongRows q.1) q.2.1 q.2.2.1) = true := by decide +kernel
def mm_k315 : List mm_I := [(0, .iconst 0, 1, 0, 0), (1, .istore_n 2, 1, 0, 0), (2, .iconst 0, 1, 0, 0), (3, .istore_n 3, 1, 0, 0), (4, .iload_n 3, 1, 0, 0), (5, .aload_n 0, 1, 0, 0), (6, .invokevirtual 129, 3, 0, 198), (9, .if_icmp .ge 28, 3, 0, 0), (12, .iload_n 2, 1, 0, 0), (13, .aload_n 0, 1, 0, 0), (14, .iload_n 3, 1, 0, 0), (15, .invokevirtual 447, 3, 0, 314), (18, .iload_n 1, 1, 0, 0), (19, .if_icmp .gt 9, 3, 0, 0), (22, .iconst 1, 1, 0, 0), (23, .iload_n 3, 1, 0, 0), (24, .ishl, 1, 0, 0), (25, .goto 4, 3, 0, 0), (28, .iconst 0, 1, 0, 0), (29, .ior, 1, 0, 0), (30, .istore_n 2, 1, 0, 0), (31, .iinc 3 1, 3, 0, 0), (34, .goto (-30), 3, 0, 0), (37, .iload_n 2, 1, 0, 0), (38, .ireturn, 1, 0, 0)]
/-- SerialGateModel.thatFit(I)I -/
def mm_M315 : mm_M := (yX11_thatFit, cX11_thatFit, 4, (some .int), 11, false, [], [], mm_k315)
theorem mm_d315 : mm_k315.all (fun q => mm_deq (decode cX11_thatFit q.1) q.2.1 q.2.2.1) = true := by decide +kernel
def mm_k316 : List mm_I := [(0, .aload_n 0, 1, 0, 0), (1, .invokevirtual 238, 3, 0, 224), (4, .aload_n 0, 1, 0, 0), (5, .aload_n 0, 1, 0, 0), (6, .invokevirtual 450, 3, 0, 312), (9, .ifCond .ne 7, 3, 0, 0), (12, .iconst 1, 1, 0, 0), (13, .goto 4, 3, 0, 0), (16, .iconst 0, 1, 0, 0), (17, .iconst 1, 1, 0, 0), (18, .invokevirtual 249, 3, 0, 188), (21, .ifCond .eq 7, 3, 0, 0), (24, .iconst 0, 1, 0, 0), (25, .goto 8, 3, 0, 0), (28, .aload_n 0, 1, 0, 0), (29, .iconst 1, 1, 0, 0), (30, .invokevirtual 453, 3, 0, 315), (33, .ireturn, 1, 0, 0)]
/-- SerialGateModel.who()I -/
def mm_M316 : mm_M := (yX11_who, cX11_who, 1, (some .int), 11, false, [], [], mm_k316)
theorem mm_d316 : mm_k316.all (fun q => mm_deq (decode cX11_who q.1) q.2.1 q.2.2.1) = true := by decide +kernel
def mm_k317 : List mm_I := [(0, .aload_n 0, 1, 0, 0), (1, .invokevirtual 238, 3, 0, 224), (4, .aload_n 0, 1, 0, 0), (5, .aload_n 0, 1, 0, 0), (6, .invokevirtual 450, 3, 0, 312), (9, .ifCond .ne 7, 3, 0, 0), (12, .iconst 1, 1, 0, 0), (13, .goto 4, 3, 0, 0), (16, .iconst 0, 1, 0, 0), (17, .iconst 1, 1, 0, 0), (18, .invokevirtual 249, 3, 0, 188), (21, .ifCond .eq 5, 3, 0, 0), (24, .iconst 0, 1, 0, 0), (25, .ireturn, 1, 0, 0), (26, .aload_n 0, 1, 0, 0), (27, .iconst 0, 1, 0, 0), (28, .invokevirtual 453, 3, 0, 315), (31, .ifCond .eq 11, 3, 0, 0), (34, .aload_n 0, 1, 0, 0), (35, .iconst 0, 1, 0, 0), (36, .invokevirtual 453, 3, 0, 315), (39, .goto 8, 3, 0, 0), (42, .aload_n 0, 1, 0, 0), (43, .iconst 1, 1, 0, 0), (44, .invokevirtual 453, 3, 0, 315), (47, .istore_n 1, 1, 0, 0), (48, .iload_n 1, 1, 0, 0), (49, .ifCond .ne 7, 3, 0, 0), (52, .iconst (-1), 1, 0, 0), (53, .goto 7, 3, 0, 0), (56, .iload_n 1, 1, 0, 0), (57, .invokestatic 322, 3, 0, 269), (60, .ireturn, 1, 0, 0)]
/-- SerialGateModel.likely()I -/
def mm_M317 : mm_M := (yX11_likely, cX11_likely, 2, (some .int), 11, false, [], [], mm_k317)
theorem mm_d317 : mm_k317.all (fun q => mm_deq (decode cX11_likely q.1) q.2.1 q.2.2.1) = true := by decide +kernel
def mm_k318 : List mm_I := [(0, .aload_n 0, 1, 0, 0), (1, .invokevirtual 238, 3, 0, 224), (4, .aload_n 0, 1, 0, 0), (5, .aload_n 0, 1, 0, 0), (6, .invokevirtual 450, 3, 0, 312), (9, .ifCond .ne 7, 3, 0, 0), (12, .iconst 1, 1, 0, 0), (13, .goto 4, 3, 0, 0), (16, .iconst 0, 1, 0, 0), (17, .iconst 1, 1, 0, 0), (18, .invokevirtual 249, 3, 0, 188), (21, .ifCond .eq 5, 3, 0, 0), (24, .iconst 0, 1, 0, 0), (25, .ireturn, 1, 0, 0), (26, .aload_n 0, 1, 0, 0), (27, .iconst 1, 1, 0, 0), (28, .invokevirtual 453, 3, 0, 315), (31, .istore_n 1, 1, 0, 0), (32, .iload_n 1, 1, 0, 0), (33, .invokestatic 258, 3, 0, 343), (36, .istore_n 2, 1, 0, 0), (37, .iconst (-1), 1, 0, 0), (38, .istore_n 3, 1, 0, 0), (39, .ldc_w 456, 3, 1000000, 0), (42, .istore 4, 2, 0, 0), (44, .iconst 0, 1, 0, 0), (45, .istore 5, 2, 0, 0), (47, .iload 5, 2, 0, 0), (49, .bipush 20, 2, 0, 0), (51, .if_icmp .ge 95, 3, 0, 0), (54, .iload_n 2, 1, 0, 0), (55, .iconst 1, 1, 0, 0), (56, .if_icmp .le 90, 3, 0, 0), (59, .iconst 0, 1, 0, 0), (60, .istore 6, 2, 0, 0), (62, .iconst 0, 1, 0, 0), (63, .istore 7, 2, 0, 0), (65, .iload 7, 2, 0, 0), (67, .aload_n 0, 1, 0, 0), (68, .invokevirtual 129, 3, 0, 198), (71, .if_icmp .ge 35, 3, 0, 0), (74, .iload 6, 2, 0, 0), (76, .iload_n 1, 1, 0, 0), (77, .iload 7, 2, 0, 0), (79, .invokestatic 79, 3, 0, 190), (82, .ifCond .eq 14, 3, 0, 0), (85, .aload_n 0, 1, 0, 0), (86, .iload 7, 2, 0, 0), (88, .iload 5, 2, 0, 0), (90, .invokevirtual 444, 3, 0, 313), (93, .goto 4, 3, 0, 0), (96, .iconst 0, 1, 0, 0), (97, .iadd, 1, 0, 0), (98, .istore 6, 2, 0, 0), (100, .iinc 7 1, 3, 0, 0), (103, .goto (-38), 3, 0, 0), (106, .iload 6, 2, 0, 0), (108, .iload_n 2, 1, 0, 0), (109, .iload 6, 2, 0, 0), (111, .isub, 1, 0, 0), (112, .invokestatic 276, 3, 0, 344), (115, .istore 7, 2, 0, 0), (117, .iload 7, 2, 0, 0), (119, .iload 4, 2, 0, 0), (121, .if_icmp .ge 8, 3, 0, 0), (124, .iload 5, 2, 0, 0), (126, .goto 4, 3, 0, 0), (129, .iload_n 3, 1, 0, 0), (130, .istore_n 3, 1, 0, 0), (131, .iload 4, 2, 0, 0), (133, .iload 7, 2, 0, 0), (135, .invokestatic 149, 3, 0, 345), (138, .istore 4, 2, 0, 0), (140, .iinc 5 1, 3, 0, 0), (143, .goto (-96), 3, 0, 0), (146, .iload_n 3, 1, 0, 0), (147, .ireturn, 1, 0, 0)]
/-- SerialGateModel.ask()I -/
def mm_M318 : mm_M := (yX11_ask, cX11_ask, 8, (some .int), 11, false, [], [], mm_k318)
theorem mm_d318 : mm_k318.all (fun q => mm_deq (decode cX11_ask q.1) q.2.1 q.2.2.1) = true := by decide +kernel
def mm_k319 : List mm_I := [(0, .iload_n 1, 1, 0, 0), (1, .invokestatic 322, 3, 0, 269), (4, .istore_n 3, 1, 0, 0), (5, .iload_n 1, 1, 0, 0), (6, .iconst 1, 1, 0, 0), (7, .iload_n 3, 1, 0, 0), (8, .ishl, 1, 0, 0), (9, .iconst (-1), 1, 0, 0), (10, .ixor, 1, 0, 0), (11, .iand, 1, 0, 0), (12, .istore 4, 2, 0, 0), (14, .iload_n 2, 1, 0, 0), (15, .iconst (-1), 1, 0, 0), (16, .if_icmp .ne 11, 3, 0, 0), (19, .aload_n 0, 1, 0, 0), (20, .getfield 45, 3, 11, 21), (23, .iload 4, 2, 0, 0), (25, .iaload, 1, 0, 0), (26, .ireturn, 1, 0, 0), (27, .iload 4, 2, 0, 0), (29, .iload_n 2, 1, 0, 0), (30, .invokestatic 79, 3, 0, 190), (33, .ifCond .eq 46, 3, 0, 0), (36, .aload_n 0, 1, 0, 0), (37, .iload_n 3, 1, 0, 0), (38, .iload_n 2, 1, 0, 0), (39, .invokevirtual 429, 3, 0, 302), (42, .ifCond .ne 37, 3, 0, 0), (45, .aload_n 0, 1, 0, 0), (46, .iload_n 3, 1, 0, 0), (47, .invokevirtual 423, 3, 0, 301), (50, .invokestatic 258, 3, 0, 343), (53, .aload_n 0, 1, 0, 0), (54, .iload_n 2, 1, 0, 0), (55, .invokevirtual 423, 3, 0, 301), (58, .invokestatic 258, 3, 0, 343), (61, .iadd, 1, 0, 0), (62, .aload_n 0, 1, 0, 0), (63, .getfield 45, 3, 11, 21), (66, .iload 4, 2, 0, 0), (68, .iconst 1, 1, 0, 0), (69, .iload_n 2, 1, 0, 0), (70, .ishl, 1, 0, 0), (71, .iconst (-1), 1, 0, 0), (72, .ixor, 1, 0, 0), (73, .iand, 1, 0, 0), (74, .iaload, 1, 0, 0), (75, .iadd, 1, 0, 0), (76, .goto 4, 3, 0, 0), (79, .iconst (-1), 1, 0, 0), (80, .ireturn, 1, 0, 0)]
/-- SerialGateModel.pairedBy(II)I -/
def mm_M319 : mm_M := (yX11_pairedBy, cX11_pairedBy, 5, (some .int), 11, false, [], [], mm_k319)
theorem mm_d319 : mm_k319.all (fun q => mm_deq (decode cX11_pairedBy q.1) q.2.1 q.2.2.1) = true := by decide +kernel
def mm_k320 : List mm_I := [(0, .aload_n 0, 1, 0, 0), (1, .getfield 45, 3, 11, 21), (4, .iconst 0, 1, 0, 0), (5, .iconst 0, 1, 0, 0), (6, .iastore, 1, 0, 0), (7, .iconst 1, 1, 0, 0), (8, .istore_n 1, 1, 0, 0), (9, .iload_n 1, 1, 0, 0), (10, .iconst 1, 1, 0, 0), (11, .aload_n 0, 1, 0, 0), (12, .invokevirtual 129, 3, 0, 198), (15, .ishl, 1, 0, 0), (16, .if_icmp .ge 45, 3, 0, 0), (19, .iconst 0, 1, 0, 0), (20, .istore_n 2, 1, 0, 0), (21, .iconst (-1), 1, 0, 0), (22, .istore_n 3, 1, 0, 0), (23, .iload_n 3, 1, 0, 0), (24, .aload_n 0, 1, 0, 0), (25, .invokevirtual 129, 3, 0, 198), (28, .if_icmp .ge 20, 3, 0, 0), (31, .iload_n 2, 1, 0, 0), (32, .aload_n 0, 1, 0, 0), (33, .iload_n 1, 1, 0, 0), (34, .iload_n 3, 1, 0, 0), (35, .invokevirtual 457, 3, 0, 319), (38, .invokestatic 276, 3, 0, 344), (41, .istore_n 2, 1, 0, 0), (42, .iinc 3 1, 3, 0, 0), (45, .goto (-22), 3, 0, 0), (48, .aload_n 0, 1, 0, 0), (49, .getfield 45, 3, 11, 21), (52, .iload_n 1, 1, 0, 0), (53, .iload_n 2, 1, 0, 0), (54, .iastore, 1, 0, 0), (55, .iinc 1 1, 3, 0, 0), (58, .goto (-49), 3, 0, 0), (61, .return_, 1, 0, 0)]
/-- SerialGateModel.laysPairs()V -/
def mm_M320 : mm_M := (yX11_laysPairs, cX11_laysPairs, 4, none, 11, false, [], [], mm_k320)
theorem mm_d320 : mm_k320.all (fun q => mm_deq (decode cX11_laysPairs q.1) q.2.1 q.2.2.1) = true := by decide +kernel
def mm_k321 : List mm_I := [(0, .aload_n 0, 1, 0, 0), (1, .iconst 0, 1, 0, 0), (2, .putfield 3, 3, 11, 0), (5, .aload_n 0, 1, 0, 0), (6, .iload_n 1, 1, 0, 0), (7, .iconst (-1), 1, 0, 0), (8, .if_icmp .eq 15, 3, 0, 0), (11, .aload_n 0, 1, 0, 0), (12, .iload_n 1, 1, 0, 0), (13, .invokevirtual 380, 3, 0, 275), (16, .ifCond .eq 7, 3, 0, 0), (19, .iconst 1, 1, 0, 0), (20, .goto 4, 3, 0, 0), (23, .iconst 0, 1, 0, 0), (24, .iconst 1, 1, 0, 0), (25, .invokevirtual 249, 3, 0, 188), (28, .ifCond .eq 5, 3, 0, 0), (31, .iconst 0, 1, 0, 0), (32, .ireturn, 1, 0, 0), (33, .aload_n 0, 1, 0, 0), (34, .invokevirtual 460, 3, 0, 320), (37, .iconst 1, 1, 0, 0), (38, .aload_n 0, 1, 0, 0), (39, .invokevirtual 129, 3, 0, 198), (42, .ishl, 1, 0, 0), (43, .iconst 1, 1, 0, 0), (44, .isub, 1, 0, 0), (45, .istore_n 2, 1, 0, 0), (46, .iload_n 1, 1, 0, 0), (47, .iconst (-1), 1, 0, 0), (48, .if_icmp .ne 10, 3, 0, 0), (51, .aload_n 0, 1, 0, 0), (52, .getfield 45, 3, 11, 21), (55, .iload_n 2, 1, 0, 0), (56, .iaload, 1, 0, 0), (57, .ireturn, 1, 0, 0), (58, .iconst (-1), 1, 0, 0), (59, .istore_n 3, 1, 0, 0), (60, .iconst 0, 1, 0, 0), (61, .istore 4, 2, 0, 0), (63, .iload 4, 2, 0, 0), (65, .ifCond .ne 98, 3, 0, 0), (68, .iload_n 2, 1, 0, 0), (69, .invokestatic 322, 3, 0, 269), (72, .istore 5, 2, 0, 0), (74, .iconst (-1), 1, 0, 0), (75, .istore 6, 2, 0, 0), (77, .aload_n 0, 1, 0, 0), (78, .iload_n 2, 1, 0, 0), (79, .iload 6, 2, 0, 0), (81, .invokevirtual 457, 3, 0, 319), (84, .aload_n 0, 1, 0, 0), (85, .getfield 45, 3, 11, 21), (88, .iload_n 2, 1, 0, 0), (89, .iaload, 1, 0, 0), (90, .if_icmp .eq 9, 3, 0, 0), (93, .iinc 6 1, 3, 0, 0), (96, .goto (-19), 3, 0, 0), (99, .iload 5, 2, 0, 0), (101, .iload_n 1, 1, 0, 0), (102, .if_icmp .eq 9, 3, 0, 0), (105, .iload 6, 2, 0, 0), (107, .iload_n 1, 1, 0, 0), (108, .if_icmp .ne 7, 3, 0, 0), (111, .iconst 1, 1, 0, 0), (112, .goto 4, 3, 0, 0), (115, .iconst 0, 1, 0, 0), (116, .istore 4, 2, 0, 0), (118, .iload 5, 2, 0, 0), (120, .iload_n 1, 1, 0, 0), (121, .if_icmp .ne 8, 3, 0, 0), (124, .iload 6, 2, 0, 0), (126, .goto 5, 3, 0, 0), (129, .iload 5, 2, 0, 0), (131, .istore_n 3, 1, 0, 0), (132, .iload_n 2, 1, 0, 0), (133, .iconst 1, 1, 0, 0), (134, .iload 5, 2, 0, 0), (136, .ishl, 1, 0, 0), (137, .iconst (-1), 1, 0, 0), (138, .ixor, 1, 0, 0), (139, .iand, 1, 0, 0), (140, .istore_n 2, 1, 0, 0), (141, .iload 6, 2, 0, 0), (143, .iconst (-1), 1, 0, 0), (144, .if_icmp .ne 7, 3, 0, 0), (147, .iload_n 2, 1, 0, 0), (148, .goto 11, 3, 0, 0), (151, .iload_n 2, 1, 0, 0), (152, .iconst 1, 1, 0, 0), (153, .iload 6, 2, 0, 0), (155, .ishl, 1, 0, 0), (156, .iconst (-1), 1, 0, 0), (157, .ixor, 1, 0, 0), (158, .iand, 1, 0, 0), (159, .istore_n 2, 1, 0, 0), (160, .goto (-97), 3, 0, 0), (163, .iload_n 3, 1, 0, 0), (164, .ireturn, 1, 0, 0)]
/-- SerialGateModel.pairs(I)I -/
def mm_M321 : mm_M := (yX11_pairs, cX11_pairs, 7, (some .int), 11, false, [], [], mm_k321)
theorem mm_d321 : mm_k321.all (fun q => mm_deq (decode cX11_pairs q.1) q.2.1 q.2.2.1) = true := by decide +kernel
def mm_k322 : List mm_I := [(0, .iload_n 3, 1, 0, 0), (1, .ifCond .ne 28, 3, 0, 0), (4, .iload 4, 2, 0, 0), (6, .ifCond .ne 21, 3, 0, 0), (9, .aload_n 0, 1, 0, 0), (10, .iload_n 1, 1, 0, 0), (11, .iload_n 2, 1, 0, 0), (12, .invokevirtual 429, 3, 0, 302), (15, .ifCond .eq 8, 3, 0, 0), (18, .bipush (-2), 2, 0, 0), (20, .goto 8, 3, 0, 0), (23, .iconst 2, 1, 0, 0), (24, .goto 4, 3, 0, 0), (27, .iconst 3, 1, 0, 0), (28, .ireturn, 1, 0, 0), (29, .iload 4, 2, 0, 0), (31, .ifCond .ne 13, 3, 0, 0), (34, .aload_n 0, 1, 0, 0), (35, .iload_n 1, 1, 0, 0), (36, .iconst 3, 1, 0, 0), (37, .invokevirtual 72, 3, 0, 202), (40, .ineg, 1, 0, 0), (41, .goto 4, 3, 0, 0), (44, .iconst 0, 1, 0, 0), (45, .ireturn, 1, 0, 0)]
/-- SerialGateModel.goerHas(IIII)I -/
def mm_M322 : mm_M := (yX11_goerHas, cX11_goerHas, 5, (some .int), 11, false, [], [], mm_k322)
theorem mm_d322 : mm_k322.all (fun q => mm_deq (decode cX11_goerHas q.1) q.2.1 q.2.2.1) = true := by decide +kernel
def mm_k323 : List mm_I := [(0, .aload_n 0, 1, 0, 0), (1, .iload_n 1, 1, 0, 0), (2, .iload_n 2, 1, 0, 0), (3, .invokevirtual 426, 3, 0, 303), (6, .ifCond .eq 5, 3, 0, 0), (9, .iconst 0, 1, 0, 0), (10, .ireturn, 1, 0, 0), (11, .iconst 0, 1, 0, 0), (12, .istore_n 3, 1, 0, 0), (13, .iconst 0, 1, 0, 0), (14, .istore 4, 2, 0, 0), (16, .iload 4, 2, 0, 0), (18, .iconst 2, 1, 0, 0), (19, .if_icmp .ge 90, 3, 0, 0), (22, .iconst 0, 1, 0, 0), (23, .istore 5, 2, 0, 0), (25, .iload 5, 2, 0, 0), (27, .iconst 2, 1, 0, 0), (28, .if_icmp .ge 75, 3, 0, 0), (31, .iload_n 3, 1, 0, 0), (32, .aload_n 0, 1, 0, 0), (33, .iload_n 1, 1, 0, 0), (34, .iload_n 2, 1, 0, 0), (35, .iload 4, 2, 0, 0), (37, .iload 5, 2, 0, 0), (39, .invokevirtual 463, 3, 0, 322), (42, .aload_n 0, 1, 0, 0), (43, .iload_n 1, 1, 0, 0), (44, .iload_n 2, 1, 0, 0), (45, .iconst 1, 1, 0, 0), (46, .iload 4, 2, 0, 0), (48, .isub, 1, 0, 0), (49, .iload 5, 2, 0, 0), (51, .invokevirtual 463, 3, 0, 322), (54, .if_icmp .lt 40, 3, 0, 0), (57, .aload_n 0, 1, 0, 0), (58, .iload_n 2, 1, 0, 0), (59, .iload_n 1, 1, 0, 0), (60, .iload 5, 2, 0, 0), (62, .iload 4, 2, 0, 0), (64, .invokevirtual 463, 3, 0, 322), (67, .aload_n 0, 1, 0, 0), (68, .iload_n 2, 1, 0, 0), (69, .iload_n 1, 1, 0, 0), (70, .iconst 1, 1, 0, 0), (71, .iload 5, 2, 0, 0), (73, .isub, 1, 0, 0), (74, .iload 4, 2, 0, 0), (76, .invokevirtual 463, 3, 0, 322), (79, .if_icmp .lt 15, 3, 0, 0), (82, .iconst 1, 1, 0, 0), (83, .iconst 2, 1, 0, 0), (84, .iload 4, 2, 0, 0), (86, .imul, 1, 0, 0), (87, .iload 5, 2, 0, 0), (89, .iadd, 1, 0, 0), (90, .ishl, 1, 0, 0), (91, .goto 4, 3, 0, 0), (94, .iconst 0, 1, 0, 0), (95, .ior, 1, 0, 0), (96, .istore_n 3, 1, 0, 0), (97, .iinc 5 1, 3, 0, 0), (100, .goto (-75), 3, 0, 0), (103, .iinc 4 1, 3, 0, 0), (106, .goto (-90), 3, 0, 0), (109, .iload_n 3, 1, 0, 0), (110, .ireturn, 1, 0, 0)]
/-- SerialGateModel.rests(II)I -/
def mm_M323 : mm_M := (yX11_rests, cX11_rests, 6, (some .int), 11, false, [], [], mm_k323)
theorem mm_d323 : mm_k323.all (fun q => mm_deq (decode cX11_rests q.1) q.2.1 q.2.2.1) = true := by decide +kernel
def mm_k324 : List mm_I := [(0, .aload_n 0, 1, 0, 0), (1, .iconst 0, 1, 0, 0), (2, .putfield 3, 3, 11, 0), (5, .aload_n 0, 1, 0, 0), (6, .iload_n 1, 1, 0, 0), (7, .iconst 0, 1, 0, 0), (8, .iconst 5, 1, 0, 0), (9, .invokestatic 371, 3, 0, 189), (12, .ifCond .eq 12, 3, 0, 0), (15, .iload_n 2, 1, 0, 0), (16, .iconst 0, 1, 0, 0), (17, .iconst 5, 1, 0, 0), (18, .invokestatic 371, 3, 0, 189), (21, .ifCond .ne 7, 3, 0, 0), (24, .iconst 1, 1, 0, 0), (25, .goto 4, 3, 0, 0), (28, .iconst 0, 1, 0, 0), (29, .iconst 1, 1, 0, 0), (30, .invokevirtual 249, 3, 0, 188), (33, .ifCond .eq 5, 3, 0, 0), (36, .iconst 0, 1, 0, 0), (37, .ireturn, 1, 0, 0), (38, .aload_n 0, 1, 0, 0), (39, .invokevirtual 129, 3, 0, 198), (42, .ifCond .ne 15, 3, 0, 0), (45, .iload_n 2, 1, 0, 0), (46, .ifCond .ne 9, 3, 0, 0), (49, .sipush 10000, 3, 0, 0), (52, .goto 4, 3, 0, 0), (55, .iconst 0, 1, 0, 0), (56, .ireturn, 1, 0, 0), (57, .lconst 1, 1, 0, 0), (58, .lstore_n 3, 1, 0, 0), (59, .iconst 0, 1, 0, 0), (60, .istore 5, 2, 0, 0), (62, .iload 5, 2, 0, 0), (64, .iconst 5, 1, 0, 0), (65, .if_icmp .gt 26, 3, 0, 0), (68, .aload_n 0, 1, 0, 0), (69, .getfield 48, 3, 11, 22), (72, .iload 5, 2, 0, 0), (74, .iload 5, 2, 0, 0), (76, .ifCond .ne 7, 3, 0, 0), (79, .lconst 1, 1, 0, 0), (80, .goto 4, 3, 0, 0), (83, .lconst 0, 1, 0, 0), (84, .lastore, 1, 0, 0), (85, .iinc 5 1, 3, 0, 0), (88, .goto (-26), 3, 0, 0), (91, .iconst 0, 1, 0, 0), (92, .istore 5, 2, 0, 0), (94, .iload 5, 2, 0, 0), (96, .iload_n 1, 1, 0, 0), (97, .if_icmp .ge 72, 3, 0, 0), (100, .iconst 5, 1, 0, 0), (101, .istore 6, 2, 0, 0), (103, .iload 6, 2, 0, 0), (105, .ifCond .lt 50, 3, 0, 0), (108, .aload_n 0, 1, 0, 0), (109, .getfield 48, 3, 11, 22), (112, .iload 6, 2, 0, 0), (114, .aload_n 0, 1, 0, 0), (115, .getfield 48, 3, 11, 22), (118, .iload 6, 2, 0, 0), (120, .laload, 1, 0, 0), (121, .aload_n 0, 1, 0, 0), (122, .invokevirtual 129, 3, 0, 198), (125, .iconst 1, 1, 0, 0), (126, .isub, 1, 0, 0), (127, .i2l, 1, 0, 0), (128, .lmul, 1, 0, 0), (129, .iload 6, 2, 0, 0), (131, .ifCond .ne 7, 3, 0, 0), (134, .lconst 0, 1, 0, 0), (135, .goto 12, 3, 0, 0), (138, .aload_n 0, 1, 0, 0), (139, .getfield 48, 3, 11, 22), (142, .iload 6, 2, 0, 0), (144, .iconst 1, 1, 0, 0), (145, .isub, 1, 0, 0), (146, .laload, 1, 0, 0), (147, .ladd, 1, 0, 0), (148, .lastore, 1, 0, 0), (149, .iinc 6 (-1), 3, 0, 0), (152, .goto (-49), 3, 0, 0), (155, .lload_n 3, 1, 0, 0), (156, .aload_n 0, 1, 0, 0), (157, .invokevirtual 129, 3, 0, 198), (160, .i2l, 1, 0, 0), (161, .lmul, 1, 0, 0), (162, .lstore_n 3, 1, 0, 0), (163, .iinc 5 1, 3, 0, 0), (166, .goto (-72), 3, 0, 0), (169, .lconst 0, 1, 0, 0), (170, .lstore 5, 2, 0, 0), (172, .iload_n 2, 1, 0, 0), (173, .istore 7, 2, 0, 0), (175, .iload 7, 2, 0, 0), (177, .iconst 5, 1, 0, 0), (178, .if_icmp .gt 21, 3, 0, 0), (181, .lload 5, 2, 0, 0), (183, .aload_n 0, 1, 0, 0), (184, .getfield 48, 3, 11, 22), (187, .iload 7, 2, 0, 0), (189, .laload, 1, 0, 0), (190, .ladd, 1, 0, 0), (191, .lstore 5, 2, 0, 0), (193, .iinc 7 1, 3, 0, 0), (196, .goto (-21), 3, 0, 0), (199, .ldc2_w 467, 3, 10000, 0), (202, .lload 5, 2, 0, 0), (204, .lmul, 1, 0, 0), (205, .lload_n 3, 1, 0, 0), (206, .ldiv, 1, 0, 0), (207, .l2i, 1, 0, 0), (208, .ireturn, 1, 0, 0)]
/-- SerialGateModel.odds(II)I -/
def mm_M324 : mm_M := (yX11_odds, cX11_odds, 8, (some .int), 11, false, [], [], mm_k324)
theorem mm_d324 : mm_k324.all (fun q => mm_deq (decode cX11_odds q.1) q.2.1 q.2.2.1) = true := by decide +kernel
def mm_k325 : List mm_I := [(0, .iload_n 1, 1, 0, 0), (1, .ifCond .ne 12, 3, 0, 0), (4, .aload_n 0, 1, 0, 0), (5, .iload_n 2, 1, 0, 0), (6, .iconst 4, 1, 0, 0), (7, .invokevirtual 72, 3, 0, 202), (10, .goto 25, 3, 0, 0), (13, .iload_n 1, 1, 0, 0), (14, .iconst 1, 1, 0, 0), (15, .if_icmp .ne 12, 3, 0, 0), (18, .aload_n 0, 1, 0, 0), (19, .iload_n 2, 1, 0, 0), (20, .iconst 3, 1, 0, 0), (21, .invokevirtual 72, 3, 0, 202), (24, .goto 11, 3, 0, 0), (27, .aload_n 0, 1, 0, 0), (28, .iload_n 2, 1, 0, 0), (29, .invokevirtual 423, 3, 0, 301), (32, .invokestatic 258, 3, 0, 343), (35, .ireturn, 1, 0, 0)]
/-- SerialGateModel.amountOf(II)I -/
def mm_M325 : mm_M := (yX11_amountOf, cX11_amountOf, 3, (some .int), 11, false, [], [], mm_k325)
theorem mm_d325 : mm_k325.all (fun q => mm_deq (decode cX11_amountOf q.1) q.2.1 q.2.2.1) = true := by decide +kernel
def mm_k326 : List mm_I := [(0, .aload_n 0, 1, 0, 0), (1, .iconst 0, 1, 0, 0), (2, .putfield 3, 3, 11, 0), (5, .aload_n 0, 1, 0, 0), (6, .iload_n 1, 1, 0, 0), (7, .iconst 0, 1, 0, 0), (8, .iconst 2, 1, 0, 0), (9, .invokestatic 371, 3, 0, 189), (12, .ifCond .ne 7, 3, 0, 0), (15, .iconst 1, 1, 0, 0), (16, .goto 4, 3, 0, 0), (19, .iconst 0, 1, 0, 0), (20, .iconst 1, 1, 0, 0), (21, .invokevirtual 249, 3, 0, 188), (24, .ifCond .eq 5, 3, 0, 0), (27, .iconst 0, 1, 0, 0), (28, .ireturn, 1, 0, 0), (29, .iconst (-1), 1, 0, 0), (30, .istore_n 2, 1, 0, 0), (31, .iconst 0, 1, 0, 0), (32, .istore_n 3, 1, 0, 0), (33, .iload_n 3, 1, 0, 0), (34, .aload_n 0, 1, 0, 0), (35, .invokevirtual 129, 3, 0, 198), (38, .if_icmp .ge 35, 3, 0, 0), (41, .iload_n 2, 1, 0, 0), (42, .iconst (-1), 1, 0, 0), (43, .if_icmp .eq 18, 3, 0, 0), (46, .aload_n 0, 1, 0, 0), (47, .iload_n 1, 1, 0, 0), (48, .iload_n 3, 1, 0, 0), (49, .invokevirtual 469, 3, 0, 325), (52, .aload_n 0, 1, 0, 0), (53, .iload_n 1, 1, 0, 0), (54, .iload_n 2, 1, 0, 0), (55, .invokevirtual 469, 3, 0, 325), (58, .if_icmp .le 7, 3, 0, 0), (61, .iload_n 3, 1, 0, 0), (62, .goto 4, 3, 0, 0), (65, .iload_n 2, 1, 0, 0), (66, .istore_n 2, 1, 0, 0), (67, .iinc 3 1, 3, 0, 0), (70, .goto (-37), 3, 0, 0), (73, .iload_n 2, 1, 0, 0), (74, .ireturn, 1, 0, 0)]
/-- SerialGateModel.most(I)I -/
def mm_M326 : mm_M := (yX11_most, cX11_most, 4, (some .int), 11, false, [], [], mm_k326)
theorem mm_d326 : mm_k326.all (fun q => mm_deq (decode cX11_most q.1) q.2.1 q.2.2.1) = true := by decide +kernel
def mm_k327 : List mm_I := [(0, .aload_n 0, 1, 0, 0), (1, .iconst 0, 1, 0, 0), (2, .putfield 3, 3, 11, 0), (5, .aload_n 0, 1, 0, 0), (6, .iconst 1, 1, 0, 0), (7, .invokevirtual 313, 3, 0, 208), (10, .ireturn, 1, 0, 0)]
/-- SerialGateModel.running()I -/
def mm_M327 : mm_M := (yX11_running, cX11_running, 1, (some .int), 11, false, [], [], mm_k327)
theorem mm_d327 : mm_k327.all (fun q => mm_deq (decode cX11_running q.1) q.2.1 q.2.2.1) = true := by decide +kernel
def mm_k328 : List mm_I := [(0, .aload_n 0, 1, 0, 0), (1, .iconst 0, 1, 0, 0), (2, .putfield 3, 3, 11, 0), (5, .aload_n 0, 1, 0, 0), (6, .iconst 2, 1, 0, 0), (7, .invokevirtual 313, 3, 0, 208), (10, .ireturn, 1, 0, 0)]
/-- SerialGateModel.finished()I -/
def mm_M328 : mm_M := (yX11_finished, cX11_finished, 1, (some .int), 11, false, [], [], mm_k328)
theorem mm_d328 : mm_k328.all (fun q => mm_deq (decode cX11_finished q.1) q.2.1 q.2.2.1) = true := by decide +kernel
def mm_k329 : List mm_I := [(0, .iconst 0, 1, 0, 0), (1, .istore_n 2, 1, 0, 0), (2, .iconst 0, 1, 0, 0), (3, .istore_n 3, 1, 0, 0), (4, .iload_n 3, 1, 0, 0), (5, .aload_n 0, 1, 0, 0), (6, .invokevirtual 129, 3, 0, 198), (9, .if_icmp .ge 21, 3, 0, 0), (12, .iload_n 2, 1, 0, 0), (13, .aload_n 0, 1, 0, 0), (14, .iload_n 3, 1, 0, 0), (15, .invokevirtual 423, 3, 0, 301), (18, .iload_n 1, 1, 0, 0), (19, .ishr, 1, 0, 0), (20, .iconst 1, 1, 0, 0), (21, .iand, 1, 0, 0), (22, .iadd, 1, 0, 0), (23, .istore_n 2, 1, 0, 0), (24, .iinc 3 1, 3, 0, 0), (27, .goto (-23), 3, 0, 0), (30, .iload_n 2, 1, 0, 0), (31, .ireturn, 1, 0, 0)]
/-- SerialGateModel.usersOf(I)I -/
def mm_M329 : mm_M := (yX11_usersOf, cX11_usersOf, 4, (some .int), 11, false, [], [], mm_k329)
theorem mm_d329 : mm_k329.all (fun q => mm_deq (decode cX11_usersOf q.1) q.2.1 q.2.2.1) = true := by decide +kernel
def mm_k330 : List mm_I := [(0, .aload_n 0, 1, 0, 0), (1, .iconst 0, 1, 0, 0), (2, .putfield 3, 3, 11, 0), (5, .iconst 0, 1, 0, 0), (6, .istore_n 1, 1, 0, 0), (7, .iconst 1, 1, 0, 0), (8, .istore_n 2, 1, 0, 0), (9, .iload_n 2, 1, 0, 0), (10, .bipush 10, 2, 0, 0), (12, .if_icmp .ge 28, 3, 0, 0), (15, .aload_n 0, 1, 0, 0), (16, .iload_n 2, 1, 0, 0), (17, .invokevirtual 472, 3, 0, 329), (20, .aload_n 0, 1, 0, 0), (21, .iload_n 1, 1, 0, 0), (22, .invokevirtual 472, 3, 0, 329), (25, .if_icmp .le 7, 3, 0, 0), (28, .iload_n 2, 1, 0, 0), (29, .goto 4, 3, 0, 0), (32, .iload_n 1, 1, 0, 0), (33, .istore_n 1, 1, 0, 0), (34, .iinc 2 1, 3, 0, 0), (37, .goto (-28), 3, 0, 0), (40, .iload_n 1, 1, 0, 0), (41, .ireturn, 1, 0, 0)]
/-- SerialGateModel.hot()I -/
def mm_M330 : mm_M := (yX11_hot, cX11_hot, 3, (some .int), 11, false, [], [], mm_k330)
theorem mm_d330 : mm_k330.all (fun q => mm_deq (decode cX11_hot q.1) q.2.1 q.2.2.1) = true := by decide +kernel
def mm_k331 : List mm_I := [(0, .aload_n 0, 1, 0, 0), (1, .iconst 0, 1, 0, 0), (2, .putfield 3, 3, 11, 0), (5, .iconst 0, 1, 0, 0), (6, .istore_n 1, 1, 0, 0), (7, .iconst 0, 1, 0, 0), (8, .istore_n 2, 1, 0, 0), (9, .iload_n 2, 1, 0, 0), (10, .aload_n 0, 1, 0, 0), (11, .invokevirtual 129, 3, 0, 198), (14, .if_icmp .ge 60, 3, 0, 0), (17, .iconst 0, 1, 0, 0), (18, .istore_n 3, 1, 0, 0), (19, .iload_n 3, 1, 0, 0), (20, .iload_n 2, 1, 0, 0), (21, .if_icmp .ge 47, 3, 0, 0), (24, .iload_n 1, 1, 0, 0), (25, .aload_n 0, 1, 0, 0), (26, .iload_n 2, 1, 0, 0), (27, .iconst 0, 1, 0, 0), (28, .invokevirtual 72, 3, 0, 202), (31, .aload_n 0, 1, 0, 0), (32, .iload_n 3, 1, 0, 0), (33, .iconst 0, 1, 0, 0), (34, .invokevirtual 72, 3, 0, 202), (37, .if_icmp .ne 22, 3, 0, 0), (40, .aload_n 0, 1, 0, 0), (41, .iload_n 2, 1, 0, 0), (42, .iconst 1, 1, 0, 0), (43, .invokevirtual 72, 3, 0, 202), (46, .aload_n 0, 1, 0, 0), (47, .iload_n 3, 1, 0, 0), (48, .iconst 1, 1, 0, 0), (49, .invokevirtual 72, 3, 0, 202), (52, .if_icmp .ne 7, 3, 0, 0), (55, .iconst 1, 1, 0, 0), (56, .goto 4, 3, 0, 0), (59, .iconst 0, 1, 0, 0), (60, .iadd, 1, 0, 0), (61, .istore_n 1, 1, 0, 0), (62, .iinc 3 1, 3, 0, 0), (65, .goto (-46), 3, 0, 0), (68, .iinc 2 1, 3, 0, 0), (71, .goto (-62), 3, 0, 0), (74, .iload_n 1, 1, 0, 0), (75, .ireturn, 1, 0, 0)]
/-- SerialGateModel.twins()I -/
def mm_M331 : mm_M := (yX11_twins, cX11_twins, 4, (some .int), 11, false, [], [], mm_k331)
theorem mm_d331 : mm_k331.all (fun q => mm_deq (decode cX11_twins q.1) q.2.1 q.2.2.1) = true := by decide +kernel
def mm_k332 : List mm_I := [(0, .iload_n 0, 1, 0, 0), (1, .iconst 0, 1, 0, 0), (2, .bipush 60, 2, 0, 0), (4, .invokestatic 371, 3, 0, 189), (7, .ifCond .ne 7, 3, 0, 0), (10, .iconst 1, 1, 0, 0), (11, .goto 4, 3, 0, 0), (14, .iconst 0, 1, 0, 0), (15, .ireturn, 1, 0, 0)]
/-- SerialGateModel.noTicks(I)Z -/
def mm_M332 : mm_M := (yX11_noTicks, cX11_noTicks, 1, (some .boolean), 11, false, [], [], mm_k332)
theorem mm_d332 : mm_k332.all (fun q => mm_deq (decode cX11_noTicks q.1) q.2.1 q.2.2.1) = true := by decide +kernel
def mm_k333 : List mm_I := [(0, .aload_n 0, 1, 0, 0), (1, .iconst 0, 1, 0, 0), (2, .putfield 3, 3, 11, 0), (5, .aload_n 0, 1, 0, 0), (6, .iload_n 1, 1, 0, 0), (7, .invokestatic 475, 3, 0, 332), (10, .iconst 1, 1, 0, 0), (11, .invokevirtual 249, 3, 0, 188), (14, .ifCond .eq 5, 3, 0, 0), (17, .iconst 0, 1, 0, 0), (18, .ireturn, 1, 0, 0), (19, .aload_n 0, 1, 0, 0), (20, .invokevirtual 401, 3, 0, 196), (23, .aload_n 0, 1, 0, 0), (24, .iload_n 1, 1, 0, 0), (25, .invokevirtual 392, 3, 0, 272), (28, .pop, 1, 0, 0), (29, .iload_n 2, 1, 0, 0), (30, .ifCond .eq 12, 3, 0, 0), (33, .aload_n 0, 1, 0, 0), (34, .getfield 13, 3, 11, 1), (37, .iconst 5, 1, 0, 0), (38, .iaload, 1, 0, 0), (39, .goto 7, 3, 0, 0), (42, .aload_n 0, 1, 0, 0), (43, .invokevirtual 386, 3, 0, 279), (46, .istore_n 3, 1, 0, 0), (47, .aload_n 0, 1, 0, 0), (48, .invokevirtual 404, 3, 0, 197), (51, .iload_n 3, 1, 0, 0), (52, .ireturn, 1, 0, 0)]
/-- SerialGateModel.trial(IZ)I -/
def mm_M333 : mm_M := (yX11_trial, cX11_trial, 4, (some .int), 11, false, [], [], mm_k333)
theorem mm_d333 : mm_k333.all (fun q => mm_deq (decode cX11_trial q.1) q.2.1 q.2.2.1) = true := by decide +kernel
def mm_k334 : List mm_I := [(0, .aload_n 0, 1, 0, 0), (1, .iconst 0, 1, 0, 0), (2, .putfield 3, 3, 11, 0), (5, .aload_n 0, 1, 0, 0), (6, .iload_n 1, 1, 0, 0), (7, .invokestatic 475, 3, 0, 332), (10, .iconst 1, 1, 0, 0), (11, .invokevirtual 249, 3, 0, 188), (14, .ifCond .eq 5, 3, 0, 0), (17, .iconst 0, 1, 0, 0), (18, .ireturn, 1, 0, 0), (19, .aload_n 0, 1, 0, 0), (20, .invokevirtual 401, 3, 0, 196), (23, .iconst (-1), 1, 0, 0), (24, .istore_n 3, 1, 0, 0), (25, .iconst 1, 1, 0, 0), (26, .istore 4, 2, 0, 0), (28, .iload 4, 2, 0, 0), (30, .bipush 6, 2, 0, 0), (32, .if_icmp .gt 63, 3, 0, 0), (35, .aload_n 0, 1, 0, 0), (36, .getfield 13, 3, 11, 1), (39, .bipush 8, 2, 0, 0), (41, .iload 4, 2, 0, 0), (43, .iastore, 1, 0, 0), (44, .aload_n 0, 1, 0, 0), (45, .iload_n 1, 1, 0, 0), (46, .invokevirtual 392, 3, 0, 272), (49, .pop, 1, 0, 0), (50, .aload_n 0, 1, 0, 0), (51, .invokevirtual 386, 3, 0, 279), (54, .istore 5, 2, 0, 0), (56, .aload_n 0, 1, 0, 0), (57, .invokevirtual 404, 3, 0, 197), (60, .iload_n 3, 1, 0, 0), (61, .ifCond .ge 8, 3, 0, 0), (64, .iload 5, 2, 0, 0), (66, .goto 22, 3, 0, 0), (69, .iload_n 2, 1, 0, 0), (70, .ifCond .eq 12, 3, 0, 0), (73, .iload_n 3, 1, 0, 0), (74, .iload 5, 2, 0, 0), (76, .invokestatic 276, 3, 0, 344), (79, .goto 9, 3, 0, 0), (82, .iload_n 3, 1, 0, 0), (83, .iload 5, 2, 0, 0), (85, .invokestatic 149, 3, 0, 345), (88, .istore_n 3, 1, 0, 0), (89, .iinc 4 1, 3, 0, 0), (92, .goto (-64), 3, 0, 0), (95, .iload_n 3, 1, 0, 0), (96, .ireturn, 1, 0, 0)]
/-- SerialGateModel.span(IZ)I -/
def mm_M334 : mm_M := (yX11_span, cX11_span, 6, (some .int), 11, false, [], [], mm_k334)
theorem mm_d334 : mm_k334.all (fun q => mm_deq (decode cX11_span q.1) q.2.1 q.2.2.1) = true := by decide +kernel
def mm_k335 : List mm_I := [(0, .aload_n 0, 1, 0, 0), (1, .getfield 13, 3, 11, 1), (4, .sipush 530, 3, 0, 0), (7, .iconst 4, 1, 0, 0), (8, .iload_n 1, 1, 0, 0), (9, .imul, 1, 0, 0), (10, .iadd, 1, 0, 0), (11, .iload_n 2, 1, 0, 0), (12, .iadd, 1, 0, 0), (13, .iaload, 1, 0, 0), (14, .ireturn, 1, 0, 0)]
/-- SerialGateModel.ofLog(II)I -/
def mm_M335 : mm_M := (yX11_ofLog, cX11_ofLog, 3, (some .int), 11, false, [], [], mm_k335)
theorem mm_d335 : mm_k335.all (fun q => mm_deq (decode cX11_ofLog q.1) q.2.1 q.2.2.1) = true := by decide +kernel
def mm_k336 : List mm_I := [(0, .aload_n 0, 1, 0, 0), (1, .iconst 0, 1, 0, 0), (2, .putfield 3, 3, 11, 0), (5, .aload_n 0, 1, 0, 0), (6, .aload_n 0, 1, 0, 0), (7, .iload_n 1, 1, 0, 0), (8, .invokevirtual 380, 3, 0, 275), (11, .iconst 1, 1, 0, 0), (12, .invokevirtual 249, 3, 0, 188), (15, .ifCond .eq 5, 3, 0, 0), (18, .iconst 0, 1, 0, 0), (19, .ireturn, 1, 0, 0), (20, .iconst 0, 1, 0, 0), (21, .istore_n 3, 1, 0, 0), (22, .iconst (-1), 1, 0, 0), (23, .istore 4, 2, 0, 0), (25, .aload_n 0, 1, 0, 0), (26, .getfield 13, 3, 11, 1), (29, .bipush 6, 2, 0, 0), (31, .iaload, 1, 0, 0), (32, .iconst 1, 1, 0, 0), (33, .isub, 1, 0, 0), (34, .istore 5, 2, 0, 0), (36, .iload 5, 2, 0, 0), (38, .ifCond .lt 50, 3, 0, 0), (41, .aload_n 0, 1, 0, 0), (42, .iload 5, 2, 0, 0), (44, .iconst 1, 1, 0, 0), (45, .invokevirtual 478, 3, 0, 335), (48, .iload_n 1, 1, 0, 0), (49, .if_icmp .ne 33, 3, 0, 0), (52, .aload_n 0, 1, 0, 0), (53, .iload 5, 2, 0, 0), (55, .iconst 2, 1, 0, 0), (56, .invokevirtual 478, 3, 0, 335), (59, .iconst 1, 1, 0, 0), (60, .iconst 3, 1, 0, 0), (61, .invokestatic 371, 3, 0, 189), (64, .ifCond .ne 6, 3, 0, 0), (67, .goto 15, 3, 0, 0), (70, .iinc 3 1, 3, 0, 0), (73, .aload_n 0, 1, 0, 0), (74, .iload 5, 2, 0, 0), (76, .iconst 0, 1, 0, 0), (77, .invokevirtual 478, 3, 0, 335), (80, .istore 4, 2, 0, 0), (82, .iinc 5 (-1), 3, 0, 0), (85, .goto (-49), 3, 0, 0), (88, .iload_n 2, 1, 0, 0), (89, .ifCond .eq 8, 3, 0, 0), (92, .iload 4, 2, 0, 0), (94, .goto 4, 3, 0, 0), (97, .iload_n 3, 1, 0, 0), (98, .ireturn, 1, 0, 0)]
/-- SerialGateModel.led(IZ)I -/
def mm_M336 : mm_M := (yX11_led, cX11_led, 6, (some .int), 11, false, [], [], mm_k336)
theorem mm_d336 : mm_k336.all (fun q => mm_deq (decode cX11_led q.1) q.2.1 q.2.2.1) = true := by decide +kernel
def mm_k337 : List mm_I := [(0, .aload_n 0, 1, 0, 0), (1, .iconst 0, 1, 0, 0), (2, .putfield 3, 3, 11, 0), (5, .aload_n 0, 1, 0, 0), (6, .iload_n 2, 1, 0, 0), (7, .iconst 0, 1, 0, 0), (8, .iconst 3, 1, 0, 0), (9, .invokestatic 371, 3, 0, 189), (12, .ifCond .ne 7, 3, 0, 0), (15, .iconst 1, 1, 0, 0), (16, .goto 4, 3, 0, 0), (19, .iconst 0, 1, 0, 0), (20, .iconst 1, 1, 0, 0), (21, .invokevirtual 249, 3, 0, 188), (24, .ifCond .eq 5, 3, 0, 0), (27, .iconst 0, 1, 0, 0), (28, .ireturn, 1, 0, 0), (29, .iload_n 1, 1, 0, 0), (30, .iconst 0, 1, 0, 0), (31, .aload_n 0, 1, 0, 0), (32, .getfield 13, 3, 11, 1), (35, .bipush 6, 2, 0, 0), (37, .iaload, 1, 0, 0), (38, .iconst 1, 1, 0, 0), (39, .isub, 1, 0, 0), (40, .invokestatic 371, 3, 0, 189), (43, .ifCond .eq 12, 3, 0, 0), (46, .aload_n 0, 1, 0, 0), (47, .iload_n 1, 1, 0, 0), (48, .iload_n 2, 1, 0, 0), (49, .invokevirtual 478, 3, 0, 335), (52, .goto 4, 3, 0, 0), (55, .iconst (-1), 1, 0, 0), (56, .ireturn, 1, 0, 0)]
/-- SerialGateModel.log(II)I -/
def mm_M337 : mm_M := (yX11_log, cX11_log, 3, (some .int), 11, false, [], [], mm_k337)
theorem mm_d337 : mm_k337.all (fun q => mm_deq (decode cX11_log q.1) q.2.1 q.2.2.1) = true := by decide +kernel
def mm_k338 : List mm_I := [(0, .aload_n 0, 1, 0, 0), (1, .iconst 0, 1, 0, 0), (2, .putfield 3, 3, 11, 0), (5, .aload_n 0, 1, 0, 0), (6, .getfield 13, 3, 11, 1), (9, .bipush 8, 2, 0, 0), (11, .iaload, 1, 0, 0), (12, .istore_n 2, 1, 0, 0), (13, .aload_n 0, 1, 0, 0), (14, .getfield 13, 3, 11, 1), (17, .bipush 8, 2, 0, 0), (19, .iload_n 1, 1, 0, 0), (20, .iastore, 1, 0, 0), (21, .iload_n 2, 1, 0, 0), (22, .ireturn, 1, 0, 0)]
/-- SerialGateModel.seed(I)I -/
def mm_M338 : mm_M := (yX11_seed, cX11_seed, 3, (some .int), 11, false, [], [], mm_k338)
theorem mm_d338 : mm_k338.all (fun q => mm_deq (decode cX11_seed q.1) q.2.1 q.2.2.1) = true := by decide +kernel
def mm_k339 : List mm_I := [(0, .iconst 0, 1, 0, 0), (1, .istore_n 1, 1, 0, 0), (2, .iconst 0, 1, 0, 0), (3, .istore_n 2, 1, 0, 0), (4, .iload_n 2, 1, 0, 0), (5, .bipush 8, 2, 0, 0), (7, .if_icmp .ge 22, 3, 0, 0), (10, .iload_n 1, 1, 0, 0), (11, .aload_n 0, 1, 0, 0), (12, .iload_n 2, 1, 0, 0), (13, .bipush 7, 2, 0, 0), (15, .invokevirtual 69, 3, 0, 204), (18, .invokestatic 258, 3, 0, 343), (21, .iadd, 1, 0, 0), (22, .istore_n 1, 1, 0, 0), (23, .iinc 2 1, 3, 0, 0), (26, .goto (-22), 3, 0, 0), (29, .iload_n 1, 1, 0, 0), (30, .ireturn, 1, 0, 0)]
/-- SerialGateModel.edges()I -/
def mm_M339 : mm_M := (yX11_edges, cX11_edges, 3, (some .int), 11, false, [], [], mm_k339)
theorem mm_d339 : mm_k339.all (fun q => mm_deq (decode cX11_edges q.1) q.2.1 q.2.2.1) = true := by decide +kernel
def mm_k340 : List mm_I := [(0, .iconst 0, 1, 0, 0), (1, .istore_n 1, 1, 0, 0), (2, .iconst 0, 1, 0, 0), (3, .istore_n 2, 1, 0, 0), (4, .iload_n 2, 1, 0, 0), (5, .aload_n 0, 1, 0, 0), (6, .invokevirtual 129, 3, 0, 198), (9, .if_icmp .ge 18, 3, 0, 0), (12, .iload_n 1, 1, 0, 0), (13, .aload_n 0, 1, 0, 0), (14, .iload_n 2, 1, 0, 0), (15, .iconst 3, 1, 0, 0), (16, .invokevirtual 72, 3, 0, 202), (19, .iadd, 1, 0, 0), (20, .istore_n 1, 1, 0, 0), (21, .iinc 2 1, 3, 0, 0), (24, .goto (-20), 3, 0, 0), (27, .iload_n 1, 1, 0, 0), (28, .ireturn, 1, 0, 0)]
/-- SerialGateModel.retriesOfAll()I -/
def mm_M340 : mm_M := (yX11_retriesOfAll, cX11_retriesOfAll, 3, (some .int), 11, false, [], [], mm_k340)
theorem mm_d340 : mm_k340.all (fun q => mm_deq (decode cX11_retriesOfAll q.1) q.2.1 q.2.2.1) = true := by decide +kernel
def mm_k341 : List mm_I := [(0, .aload_n 0, 1, 0, 0), (1, .iconst 0, 1, 0, 0), (2, .putfield 3, 3, 11, 0), (5, .iload_n 1, 1, 0, 0), (6, .tableswitch 180 0 13 #[70, 75, 84, 93, 100, 123, 130, 137, 144, 149, 157, 162, 167, 175], 70, 0, 0), (76, .aload_n 0, 1, 0, 0), (77, .invokevirtual 129, 3, 0, 198), (80, .ireturn, 1, 0, 0), (81, .aload_n 0, 1, 0, 0), (82, .iconst 1, 1, 0, 0), (83, .invokevirtual 313, 3, 0, 208), (86, .invokestatic 258, 3, 0, 343), (89, .ireturn, 1, 0, 0), (90, .aload_n 0, 1, 0, 0), (91, .iconst 2, 1, 0, 0), (92, .invokevirtual 313, 3, 0, 208), (95, .invokestatic 258, 3, 0, 343), (98, .ireturn, 1, 0, 0), (99, .aload_n 0, 1, 0, 0), (100, .getfield 13, 3, 11, 1), (103, .iconst 1, 1, 0, 0), (104, .iaload, 1, 0, 0), (105, .ireturn, 1, 0, 0), (106, .aload_n 0, 1, 0, 0), (107, .getfield 13, 3, 11, 1), (110, .iconst 2, 1, 0, 0), (111, .iaload, 1, 0, 0), (112, .iconst 1, 1, 0, 0), (113, .if_icmp .ne 14, 3, 0, 0), (116, .aload_n 0, 1, 0, 0), (117, .getfield 13, 3, 11, 1), (120, .sipush 770, 3, 0, 0), (123, .iaload, 1, 0, 0), (124, .goto 4, 3, 0, 0), (127, .iconst (-1), 1, 0, 0), (128, .ireturn, 1, 0, 0), (129, .aload_n 0, 1, 0, 0), (130, .getfield 13, 3, 11, 1), (133, .iconst 3, 1, 0, 0), (134, .iaload, 1, 0, 0), (135, .ireturn, 1, 0, 0), (136, .aload_n 0, 1, 0, 0), (137, .getfield 13, 3, 11, 1), (140, .iconst 4, 1, 0, 0), (141, .iaload, 1, 0, 0), (142, .ireturn, 1, 0, 0), (143, .aload_n 0, 1, 0, 0), (144, .getfield 13, 3, 11, 1), (147, .iconst 5, 1, 0, 0), (148, .iaload, 1, 0, 0), (149, .ireturn, 1, 0, 0), (150, .aload_n 0, 1, 0, 0), (151, .invokevirtual 481, 3, 0, 339), (154, .ireturn, 1, 0, 0), (155, .aload_n 0, 1, 0, 0), (156, .getfield 13, 3, 11, 1), (159, .bipush 7, 2, 0, 0), (161, .iaload, 1, 0, 0), (162, .ireturn, 1, 0, 0), (163, .aload_n 0, 1, 0, 0), (164, .invokevirtual 386, 3, 0, 279), (167, .ireturn, 1, 0, 0), (168, .aload_n 0, 1, 0, 0), (169, .invokevirtual 484, 3, 0, 340), (172, .ireturn, 1, 0, 0), (173, .aload_n 0, 1, 0, 0), (174, .getfield 13, 3, 11, 1), (177, .bipush 6, 2, 0, 0), (179, .iaload, 1, 0, 0), (180, .ireturn, 1, 0, 0), (181, .aload_n 0, 1, 0, 0), (182, .getfield 56, 3, 11, 7), (185, .ireturn, 1, 0, 0), (186, .iconst (-1), 1, 0, 0), (187, .ireturn, 1, 0, 0)]
/-- SerialGateModel.count(I)I -/
def mm_M341 : mm_M := (yX11_count, cX11_count, 2, (some .int), 11, false, [], [], mm_k341)
theorem mm_d341 : mm_k341.all (fun q => mm_deq (decode cX11_count q.1) q.2.1 q.2.2.1) = true := by decide +kernel
def mm_k342 : List mm_I := [(0, .iload_n 0, 1, 0, 0), (1, .iconst (-1), 1, 0, 0), (2, .ixor, 1, 0, 0), (3, .iload_n 0, 1, 0, 0), (4, .iconst 1, 1, 0, 0), (5, .isub, 1, 0, 0), (6, .iand, 1, 0, 0), (7, .istore_n 0, 1, 0, 0), (8, .iload_n 0, 1, 0, 0), (9, .ifCond .gt 8, 3, 0, 0), (12, .iload_n 0, 1, 0, 0), (13, .bipush 32, 2, 0, 0), (15, .iand, 1, 0, 0), (16, .ireturn, 1, 0, 0), (17, .iconst 1, 1, 0, 0), (18, .istore_n 1, 1, 0, 0), (19, .iload_n 0, 1, 0, 0), (20, .ldc_w 264, 3, 65536, 0), (23, .if_icmp .le 11, 3, 0, 0), (26, .iinc 1 16, 3, 0, 0), (29, .iload_n 0, 1, 0, 0), (30, .bipush 16, 2, 0, 0), (32, .iushr, 1, 0, 0), (33, .istore_n 0, 1, 0, 0), (34, .iload_n 0, 1, 0, 0), (35, .sipush 256, 3, 0, 0), (38, .if_icmp .le 11, 3, 0, 0), (41, .iinc 1 8, 3, 0, 0), (44, .iload_n 0, 1, 0, 0), (45, .bipush 8, 2, 0, 0), (47, .iushr, 1, 0, 0), (48, .istore_n 0, 1, 0, 0), (49, .iload_n 0, 1, 0, 0), (50, .bipush 16, 2, 0, 0), (52, .if_icmp .le 10, 3, 0, 0), (55, .iinc 1 4, 3, 0, 0), (58, .iload_n 0, 1, 0, 0), (59, .iconst 4, 1, 0, 0), (60, .iushr, 1, 0, 0), (61, .istore_n 0, 1, 0, 0), (62, .iload_n 0, 1, 0, 0), (63, .iconst 4, 1, 0, 0), (64, .if_icmp .le 10, 3, 0, 0), (67, .iinc 1 2, 3, 0, 0), (70, .iload_n 0, 1, 0, 0), (71, .iconst 2, 1, 0, 0), (72, .iushr, 1, 0, 0), (73, .istore_n 0, 1, 0, 0), (74, .iload_n 1, 1, 0, 0), (75, .iload_n 0, 1, 0, 0), (76, .iconst 1, 1, 0, 0), (77, .iushr, 1, 0, 0), (78, .iadd, 1, 0, 0), (79, .ireturn, 1, 0, 0)]
/-- java/lang/Integer.numberOfTrailingZeros(I)I -/
def mm_M342 : mm_M := (yJ6_numberOfTrailingZeros_0f7a4, cJ6_numberOfTrailingZeros_0f7a4, 2, (some .int), 13, false, [], [], mm_k342)
theorem mm_d342 : mm_k342.all (fun q => mm_deq (decode cJ6_numberOfTrailingZeros_0f7a4 q.1) q.2.1 q.2.2.1) = true := by decide +kernel
def mm_k343 : List mm_I := [(0, .iload_n 0, 1, 0, 0), (1, .iload_n 0, 1, 0, 0), (2, .iconst 1, 1, 0, 0), (3, .iushr, 1, 0, 0), (4, .ldc_w 265, 3, 1431655765, 0), (7, .iand, 1, 0, 0), (8, .isub, 1, 0, 0), (9, .istore_n 0, 1, 0, 0), (10, .iload_n 0, 1, 0, 0), (11, .ldc_w 266, 3, 858993459, 0), (14, .iand, 1, 0, 0), (15, .iload_n 0, 1, 0, 0), (16, .iconst 2, 1, 0, 0), (17, .iushr, 1, 0, 0), (18, .ldc_w 266, 3, 858993459, 0), (21, .iand, 1, 0, 0), (22, .iadd, 1, 0, 0), (23, .istore_n 0, 1, 0, 0), (24, .iload_n 0, 1, 0, 0), (25, .iload_n 0, 1, 0, 0), (26, .iconst 4, 1, 0, 0), (27, .iushr, 1, 0, 0), (28, .iadd, 1, 0, 0), (29, .ldc_w 267, 3, 252645135, 0), (32, .iand, 1, 0, 0), (33, .istore_n 0, 1, 0, 0), (34, .iload_n 0, 1, 0, 0), (35, .iload_n 0, 1, 0, 0), (36, .bipush 8, 2, 0, 0), (38, .iushr, 1, 0, 0), (39, .iadd, 1, 0, 0), (40, .istore_n 0, 1, 0, 0), (41, .iload_n 0, 1, 0, 0), (42, .iload_n 0, 1, 0, 0), (43, .bipush 16, 2, 0, 0), (45, .iushr, 1, 0, 0), (46, .iadd, 1, 0, 0), (47, .istore_n 0, 1, 0, 0), (48, .iload_n 0, 1, 0, 0), (49, .bipush 63, 2, 0, 0), (51, .iand, 1, 0, 0), (52, .ireturn, 1, 0, 0)]
/-- java/lang/Integer.bitCount(I)I -/
def mm_M343 : mm_M := (yJ6_bitCount_0f7a4, cJ6_bitCount_0f7a4, 1, (some .int), 13, false, [], [], mm_k343)
theorem mm_d343 : mm_k343.all (fun q => mm_deq (decode cJ6_bitCount_0f7a4 q.1) q.2.1 q.2.2.1) = true := by decide +kernel
def mm_k344 : List mm_I := [(0, .iload_n 0, 1, 0, 0), (1, .iload_n 1, 1, 0, 0), (2, .if_icmp .lt 7, 3, 0, 0), (5, .iload_n 0, 1, 0, 0), (6, .goto 4, 3, 0, 0), (9, .iload_n 1, 1, 0, 0), (10, .ireturn, 1, 0, 0)]
/-- java/lang/Math.max(II)I -/
def mm_M344 : mm_M := (yJ9_max_7cf53, cJ9_max_7cf53, 2, (some .int), 14, false, [], [], mm_k344)
theorem mm_d344 : mm_k344.all (fun q => mm_deq (decode cJ9_max_7cf53 q.1) q.2.1 q.2.2.1) = true := by decide +kernel
def mm_k345 : List mm_I := [(0, .iload_n 0, 1, 0, 0), (1, .iload_n 1, 1, 0, 0), (2, .if_icmp .gt 7, 3, 0, 0), (5, .iload_n 0, 1, 0, 0), (6, .goto 4, 3, 0, 0), (9, .iload_n 1, 1, 0, 0), (10, .ireturn, 1, 0, 0)]
/-- java/lang/Math.min(II)I -/
def mm_M345 : mm_M := (yJ9_min_7cf53, cJ9_min_7cf53, 2, (some .int), 14, false, [], [], mm_k345)
theorem mm_d345 : mm_k345.all (fun q => mm_deq (decode cJ9_min_7cf53 q.1) q.2.1 q.2.2.1) = true := by decide +kernel
def mm_k346 : List mm_I := [(0, .aload_n 1, 1, 0, 0), (1, .iconst 0, 1, 0, 0), (2, .aload_n 0, 1, 0, 0), (3, .invokevirtual 7, 3, 0, 130), (6, .i2l, 1, 0, 0), (7, .lastore, 1, 0, 0), (8, .goto 9, 3, 0, 0), (11, .astore_n 2, 1, 0, 0), (12, .iconst 1, 1, 0, 0), (13, .ireturn, 1, 0, 0), (14, .astore_n 2, 1, 0, 0), (15, .iconst 2, 1, 0, 0), (16, .ireturn, 1, 0, 0), (17, .iconst 0, 1, 0, 0), (18, .ireturn, 1, 0, 0)]
/-- SerialGateLaw.store(LSerialGate;[J)I -/
def mm_M346 : mm_M := (yL_store, cL_store, 3, (some .int), 12, false, [(0, 8, 11, 13), (0, 8, 14, 15)], [(0, 11, 1), (1, 14, 2)], mm_k346)
theorem mm_d346 : mm_k346.all (fun q => mm_deq (decode cL_store q.1) q.2.1 q.2.2.1) = true := by decide +kernel
def mm_k347 : List mm_I := [(0, .aload_n 1, 1, 0, 0), (1, .iconst 0, 1, 0, 0), (2, .aload_n 0, 1, 0, 0), (3, .invokevirtual 17, 3, 0, 131), (6, .i2l, 1, 0, 0), (7, .lastore, 1, 0, 0), (8, .goto 6, 3, 0, 0), (11, .astore_n 2, 1, 0, 0), (12, .iconst 1, 1, 0, 0), (13, .ireturn, 1, 0, 0), (14, .iconst 0, 1, 0, 0), (15, .ireturn, 1, 0, 0)]
/-- SerialGateLaw.law(LSerialGate;[J)I -/
def mm_M347 : mm_M := (yL_law, cL_law, 3, (some .int), 12, false, [(0, 8, 11, 13)], [(0, 11, 1)], mm_k347)
theorem mm_d347 : mm_k347.all (fun q => mm_deq (decode cL_law q.1) q.2.1 q.2.2.1) = true := by decide +kernel
def mm_k348 : List mm_I := [(0, .aload_n 3, 1, 0, 0), (1, .iconst 0, 1, 0, 0), (2, .aload_n 0, 1, 0, 0), (3, .iload_n 1, 1, 0, 0), (4, .iload_n 2, 1, 0, 0), (5, .invokevirtual 20, 3, 0, 134), (8, .i2l, 1, 0, 0), (9, .lastore, 1, 0, 0), (10, .goto 11, 3, 0, 0), (13, .astore 4, 2, 0, 0), (15, .iconst 1, 1, 0, 0), (16, .ireturn, 1, 0, 0), (17, .astore 4, 2, 0, 0), (19, .iconst 2, 1, 0, 0), (20, .ireturn, 1, 0, 0), (21, .iconst 0, 1, 0, 0), (22, .ireturn, 1, 0, 0)]
/-- SerialGateLaw.slot(LSerialGate;II[J)I -/
def mm_M348 : mm_M := (yL_slot, cL_slot, 5, (some .int), 12, false, [(0, 10, 13, 24), (0, 10, 17, 26)], [(2, 13, 1), (3, 17, 2)], mm_k348)
theorem mm_d348 : mm_k348.all (fun q => mm_deq (decode cL_slot q.1) q.2.1 q.2.2.1) = true := by decide +kernel
def mm_k349 : List mm_I := [(0, .aload_n 3, 1, 0, 0), (1, .iconst 0, 1, 0, 0), (2, .aload_n 0, 1, 0, 0), (3, .iload_n 1, 1, 0, 0), (4, .iload_n 2, 1, 0, 0), (5, .invokevirtual 28, 3, 0, 135), (8, .i2l, 1, 0, 0), (9, .lastore, 1, 0, 0), (10, .goto 7, 3, 0, 0), (13, .astore 4, 2, 0, 0), (15, .iconst 1, 1, 0, 0), (16, .ireturn, 1, 0, 0), (17, .iconst 0, 1, 0, 0), (18, .ireturn, 1, 0, 0)]
/-- SerialGateLaw.seen(LSerialGate;II[J)I -/
def mm_M349 : mm_M := (yL_seen, cL_seen, 5, (some .int), 12, false, [(0, 10, 13, 24)], [(2, 13, 1)], mm_k349)
theorem mm_d349 : mm_k349.all (fun q => mm_deq (decode cL_seen q.1) q.2.1 q.2.2.1) = true := by decide +kernel
def mm_k350 : List mm_I := [(0, .aload_n 3, 1, 0, 0), (1, .iconst 0, 1, 0, 0), (2, .aload_n 0, 1, 0, 0), (3, .iload_n 1, 1, 0, 0), (4, .iload_n 2, 1, 0, 0), (5, .invokevirtual 31, 3, 0, 136), (8, .i2l, 1, 0, 0), (9, .lastore, 1, 0, 0), (10, .goto 11, 3, 0, 0), (13, .astore 4, 2, 0, 0), (15, .iconst 1, 1, 0, 0), (16, .ireturn, 1, 0, 0), (17, .astore 4, 2, 0, 0), (19, .iconst 2, 1, 0, 0), (20, .ireturn, 1, 0, 0), (21, .iconst 0, 1, 0, 0), (22, .ireturn, 1, 0, 0)]
/-- SerialGateLaw.key(LSerialGate;II[J)I -/
def mm_M350 : mm_M := (yL_key, cL_key, 5, (some .int), 12, false, [(0, 10, 13, 24), (0, 10, 17, 26)], [(2, 13, 1), (3, 17, 2)], mm_k350)
theorem mm_d350 : mm_k350.all (fun q => mm_deq (decode cL_key q.1) q.2.1 q.2.2.1) = true := by decide +kernel
def mm_k351 : List mm_I := [(0, .aload_n 3, 1, 0, 0), (1, .iconst 0, 1, 0, 0), (2, .aload_n 0, 1, 0, 0), (3, .iload_n 1, 1, 0, 0), (4, .iload_n 2, 1, 0, 0), (5, .invokevirtual 34, 3, 0, 137), (8, .i2l, 1, 0, 0), (9, .lastore, 1, 0, 0), (10, .goto 11, 3, 0, 0), (13, .astore 4, 2, 0, 0), (15, .iconst 1, 1, 0, 0), (16, .ireturn, 1, 0, 0), (17, .astore 4, 2, 0, 0), (19, .iconst 2, 1, 0, 0), (20, .ireturn, 1, 0, 0), (21, .iconst 0, 1, 0, 0), (22, .ireturn, 1, 0, 0)]
/-- SerialGateLaw.client(LSerialGate;II[J)I -/
def mm_M351 : mm_M := (yL_client, cL_client, 5, (some .int), 12, false, [(0, 10, 13, 24), (0, 10, 17, 26)], [(2, 13, 1), (3, 17, 2)], mm_k351)
theorem mm_d351 : mm_k351.all (fun q => mm_deq (decode cL_client q.1) q.2.1 q.2.2.1) = true := by decide +kernel
def mm_k352 : List mm_I := [(0, .aload_n 2, 1, 0, 0), (1, .iconst 0, 1, 0, 0), (2, .aload_n 0, 1, 0, 0), (3, .iload_n 1, 1, 0, 0), (4, .invokevirtual 37, 3, 0, 138), (7, .i2l, 1, 0, 0), (8, .lastore, 1, 0, 0), (9, .goto 6, 3, 0, 0), (12, .astore_n 3, 1, 0, 0), (13, .iconst 1, 1, 0, 0), (14, .ireturn, 1, 0, 0), (15, .iconst 0, 1, 0, 0), (16, .ireturn, 1, 0, 0)]
/-- SerialGateLaw.ticks(LSerialGate;I[J)I -/
def mm_M352 : mm_M := (yL_ticks, cL_ticks, 4, (some .int), 12, false, [(0, 9, 12, 13)], [(0, 12, 1)], mm_k352)
theorem mm_d352 : mm_k352.all (fun q => mm_deq (decode cL_ticks q.1) q.2.1 q.2.2.1) = true := by decide +kernel
def mm_k353 : List mm_I := [(0, .aload_n 2, 1, 0, 0), (1, .iconst 0, 1, 0, 0), (2, .aload_n 0, 1, 0, 0), (3, .iload_n 1, 1, 0, 0), (4, .invokevirtual 41, 3, 0, 139), (7, .i2l, 1, 0, 0), (8, .lastore, 1, 0, 0), (9, .goto 9, 3, 0, 0), (12, .astore_n 3, 1, 0, 0), (13, .iconst 1, 1, 0, 0), (14, .ireturn, 1, 0, 0), (15, .astore_n 3, 1, 0, 0), (16, .iconst 2, 1, 0, 0), (17, .ireturn, 1, 0, 0), (18, .iconst 0, 1, 0, 0), (19, .ireturn, 1, 0, 0)]
/-- SerialGateLaw.begin(LSerialGate;I[J)I -/
def mm_M353 : mm_M := (yL_begin, cL_begin, 4, (some .int), 12, false, [(0, 9, 12, 24), (0, 9, 15, 44)], [(2, 12, 1), (4, 15, 2)], mm_k353)
theorem mm_d353 : mm_k353.all (fun q => mm_deq (decode cL_begin q.1) q.2.1 q.2.2.1) = true := by decide +kernel
def mm_k354 : List mm_I := [(0, .aload_n 3, 1, 0, 0), (1, .iconst 0, 1, 0, 0), (2, .aload_n 0, 1, 0, 0), (3, .iload_n 1, 1, 0, 0), (4, .iload_n 2, 1, 0, 0), (5, .invokevirtual 46, 3, 0, 140), (8, .i2l, 1, 0, 0), (9, .lastore, 1, 0, 0), (10, .goto 11, 3, 0, 0), (13, .astore 4, 2, 0, 0), (15, .iconst 1, 1, 0, 0), (16, .ireturn, 1, 0, 0), (17, .astore 4, 2, 0, 0), (19, .iconst 2, 1, 0, 0), (20, .ireturn, 1, 0, 0), (21, .iconst 0, 1, 0, 0), (22, .ireturn, 1, 0, 0)]
/-- SerialGateLaw.read(LSerialGate;II[J)I -/
def mm_M354 : mm_M := (yL_read, cL_read, 5, (some .int), 12, false, [(0, 10, 13, 24), (0, 10, 17, 44)], [(2, 13, 1), (4, 17, 2)], mm_k354)
theorem mm_d354 : mm_k354.all (fun q => mm_deq (decode cL_read q.1) q.2.1 q.2.2.1) = true := by decide +kernel
def mm_k355 : List mm_I := [(0, .aload_n 3, 1, 0, 0), (1, .iconst 0, 1, 0, 0), (2, .aload_n 0, 1, 0, 0), (3, .iload_n 1, 1, 0, 0), (4, .iload_n 2, 1, 0, 0), (5, .invokevirtual 49, 3, 0, 141), (8, .ifCond .eq 7, 3, 0, 0), (11, .lconst 1, 1, 0, 0), (12, .goto 4, 3, 0, 0), (15, .lconst 0, 1, 0, 0), (16, .lastore, 1, 0, 0), (17, .goto 11, 3, 0, 0), (20, .astore 4, 2, 0, 0), (22, .iconst 1, 1, 0, 0), (23, .ireturn, 1, 0, 0), (24, .astore 4, 2, 0, 0), (26, .iconst 2, 1, 0, 0), (27, .ireturn, 1, 0, 0), (28, .iconst 0, 1, 0, 0), (29, .ireturn, 1, 0, 0)]
/-- SerialGateLaw.write(LSerialGate;II[J)I -/
def mm_M355 : mm_M := (yL_write, cL_write, 5, (some .int), 12, false, [(0, 17, 20, 24), (0, 17, 24, 44)], [(2, 20, 1), (4, 24, 2)], mm_k355)
theorem mm_d355 : mm_k355.all (fun q => mm_deq (decode cL_write q.1) q.2.1 q.2.2.1) = true := by decide +kernel
def mm_k356 : List mm_I := [(0, .aload_n 2, 1, 0, 0), (1, .iconst 0, 1, 0, 0), (2, .aload_n 0, 1, 0, 0), (3, .iload_n 1, 1, 0, 0), (4, .invokevirtual 53, 3, 0, 142), (7, .i2l, 1, 0, 0), (8, .lastore, 1, 0, 0), (9, .goto 9, 3, 0, 0), (12, .astore_n 3, 1, 0, 0), (13, .iconst 1, 1, 0, 0), (14, .ireturn, 1, 0, 0), (15, .astore_n 3, 1, 0, 0), (16, .iconst 2, 1, 0, 0), (17, .ireturn, 1, 0, 0), (18, .iconst 0, 1, 0, 0), (19, .ireturn, 1, 0, 0)]
/-- SerialGateLaw.commit(LSerialGate;I[J)I -/
def mm_M356 : mm_M := (yL_commit, cL_commit, 4, (some .int), 12, false, [(0, 9, 12, 24), (0, 9, 15, 44)], [(2, 12, 1), (4, 15, 2)], mm_k356)
theorem mm_d356 : mm_k356.all (fun q => mm_deq (decode cL_commit q.1) q.2.1 q.2.2.1) = true := by decide +kernel
def mm_k357 : List mm_I := [(0, .aload_n 2, 1, 0, 0), (1, .iconst 0, 1, 0, 0), (2, .aload_n 0, 1, 0, 0), (3, .iload_n 1, 1, 0, 0), (4, .invokevirtual 56, 3, 0, 143), (7, .i2l, 1, 0, 0), (8, .lastore, 1, 0, 0), (9, .goto 9, 3, 0, 0), (12, .astore_n 3, 1, 0, 0), (13, .iconst 1, 1, 0, 0), (14, .ireturn, 1, 0, 0), (15, .astore_n 3, 1, 0, 0), (16, .iconst 2, 1, 0, 0), (17, .ireturn, 1, 0, 0), (18, .iconst 0, 1, 0, 0), (19, .ireturn, 1, 0, 0)]
/-- SerialGateLaw.abort(LSerialGate;I[J)I -/
def mm_M357 : mm_M := (yL_abort, cL_abort, 4, (some .int), 12, false, [(0, 9, 12, 24), (0, 9, 15, 44)], [(2, 12, 1), (4, 15, 2)], mm_k357)
theorem mm_d357 : mm_k357.all (fun q => mm_deq (decode cL_abort q.1) q.2.1 q.2.2.1) = true := by decide +kernel
def mm_k358 : List mm_I := [(0, .aload_n 2, 1, 0, 0), (1, .iconst 0, 1, 0, 0), (2, .aload_n 0, 1, 0, 0), (3, .iload_n 1, 1, 0, 0), (4, .invokevirtual 59, 3, 0, 144), (7, .i2l, 1, 0, 0), (8, .lastore, 1, 0, 0), (9, .goto 6, 3, 0, 0), (12, .astore_n 3, 1, 0, 0), (13, .iconst 1, 1, 0, 0), (14, .ireturn, 1, 0, 0), (15, .iconst 0, 1, 0, 0), (16, .ireturn, 1, 0, 0)]
/-- SerialGateLaw.keep(LSerialGate;I[J)I -/
def mm_M358 : mm_M := (yL_keep, cL_keep, 4, (some .int), 12, false, [(0, 9, 12, 13)], [(0, 12, 1)], mm_k358)
theorem mm_d358 : mm_k358.all (fun q => mm_deq (decode cL_keep q.1) q.2.1 q.2.2.1) = true := by decide +kernel
def mm_k359 : List mm_I := [(0, .aload 4, 2, 0, 0), (2, .iconst 0, 1, 0, 0), (3, .aload_n 0, 1, 0, 0), (4, .iload_n 1, 1, 0, 0), (5, .iload_n 2, 1, 0, 0), (6, .iload_n 3, 1, 0, 0), (7, .invokevirtual 62, 3, 0, 146), (10, .i2l, 1, 0, 0), (11, .lastore, 1, 0, 0), (12, .goto 15, 3, 0, 0), (15, .astore 5, 2, 0, 0), (17, .iconst 1, 1, 0, 0), (18, .ireturn, 1, 0, 0), (19, .astore 5, 2, 0, 0), (21, .iconst 2, 1, 0, 0), (22, .ireturn, 1, 0, 0), (23, .astore 5, 2, 0, 0), (25, .iconst 3, 1, 0, 0), (26, .ireturn, 1, 0, 0), (27, .iconst 0, 1, 0, 0), (28, .ireturn, 1, 0, 0)]
/-- SerialGateLaw.dooms(LSerialGate;III[J)I -/
def mm_M359 : mm_M := (yL_dooms, cL_dooms, 6, (some .int), 12, false, [(0, 12, 15, 24), (0, 12, 19, 13), (0, 12, 23, 44)], [(2, 15, 1), (0, 19, 2), (4, 23, 3)], mm_k359)
theorem mm_d359 : mm_k359.all (fun q => mm_deq (decode cL_dooms q.1) q.2.1 q.2.2.1) = true := by decide +kernel
end
section
def mm_k360 : List mm_I := [(0, .aload_n 3, 1, 0, 0), (1, .iconst 0, 1, 0, 0), (2, .aload_n 0, 1, 0, 0), (3, .iload_n 1, 1, 0, 0), (4, .iload_n 2, 1, 0, 0), (5, .invokevirtual 66, 3, 0, 149), (8, .i2l, 1, 0, 0), (9, .lastore, 1, 0, 0), (10, .goto 7, 3, 0, 0), (13, .astore 4, 2, 0, 0), (15, .iconst 1, 1, 0, 0), (16, .ireturn, 1, 0, 0), (17, .iconst 0, 1, 0, 0), (18, .ireturn, 1, 0, 0)]
/-- SerialGateLaw.history(LSerialGate;II[J)I -/
def mm_M360 : mm_M := (yL_history, cL_history, 5, (some .int), 12, false, [(0, 10, 13, 26)], [(3, 13, 1)], mm_k360)
theorem mm_d360 : mm_k360.all (fun q => mm_deq (decode cL_history q.1) q.2.1 q.2.2.1) = true := by decide +kernel
def mm_k361 : List mm_I := [(0, .aload 4, 2, 0, 0), (2, .iconst 0, 1, 0, 0), (3, .aload_n 0, 1, 0, 0), (4, .iload_n 1, 1, 0, 0), (5, .iload_n 2, 1, 0, 0), (6, .iload_n 3, 1, 0, 0), (7, .invokevirtual 69, 3, 0, 150), (10, .i2l, 1, 0, 0), (11, .lastore, 1, 0, 0), (12, .goto 7, 3, 0, 0), (15, .astore 5, 2, 0, 0), (17, .iconst 1, 1, 0, 0), (18, .ireturn, 1, 0, 0), (19, .iconst 0, 1, 0, 0), (20, .ireturn, 1, 0, 0)]
/-- SerialGateLaw.version(LSerialGate;IIZ[J)I -/
def mm_M361 : mm_M := (yL_version, cL_version, 6, (some .int), 12, false, [(0, 12, 15, 24)], [(2, 15, 1)], mm_k361)
theorem mm_d361 : mm_k361.all (fun q => mm_deq (decode cL_version q.1) q.2.1 q.2.2.1) = true := by decide +kernel
def mm_k362 : List mm_I := [(0, .aload_n 3, 1, 0, 0), (1, .iconst 0, 1, 0, 0), (2, .aload_n 0, 1, 0, 0), (3, .iload_n 1, 1, 0, 0), (4, .iload_n 2, 1, 0, 0), (5, .invokevirtual 73, 3, 0, 154), (8, .ifCond .eq 7, 3, 0, 0), (11, .lconst 1, 1, 0, 0), (12, .goto 4, 3, 0, 0), (15, .lconst 0, 1, 0, 0), (16, .lastore, 1, 0, 0), (17, .goto 11, 3, 0, 0), (20, .astore 4, 2, 0, 0), (22, .iconst 1, 1, 0, 0), (23, .ireturn, 1, 0, 0), (24, .astore 4, 2, 0, 0), (26, .iconst 2, 1, 0, 0), (27, .ireturn, 1, 0, 0), (28, .iconst 0, 1, 0, 0), (29, .ireturn, 1, 0, 0)]
/-- SerialGateLaw.clash(LSerialGate;II[J)I -/
def mm_M362 : mm_M := (yL_clash, cL_clash, 5, (some .int), 12, false, [(0, 17, 20, 24), (0, 17, 24, 13)], [(2, 20, 1), (0, 24, 2)], mm_k362)
theorem mm_d362 : mm_k362.all (fun q => mm_deq (decode cL_clash q.1) q.2.1 q.2.2.1) = true := by decide +kernel
def mm_k363 : List mm_I := [(0, .aload_n 1, 1, 0, 0), (1, .iconst 0, 1, 0, 0), (2, .aload_n 0, 1, 0, 0), (3, .invokevirtual 76, 3, 0, 164), (6, .i2l, 1, 0, 0), (7, .lastore, 1, 0, 0), (8, .goto 6, 3, 0, 0), (11, .astore_n 2, 1, 0, 0), (12, .iconst 1, 1, 0, 0), (13, .ireturn, 1, 0, 0), (14, .iconst 0, 1, 0, 0), (15, .ireturn, 1, 0, 0)]
/-- SerialGateLaw.who(LSerialGate;[J)I -/
def mm_M363 : mm_M := (yL_who, cL_who, 3, (some .int), 12, false, [(0, 8, 11, 13)], [(0, 11, 1)], mm_k363)
theorem mm_d363 : mm_k363.all (fun q => mm_deq (decode cL_who q.1) q.2.1 q.2.2.1) = true := by decide +kernel
def mm_k364 : List mm_I := [(0, .aload_n 1, 1, 0, 0), (1, .iconst 0, 1, 0, 0), (2, .aload_n 0, 1, 0, 0), (3, .invokevirtual 79, 3, 0, 165), (6, .i2l, 1, 0, 0), (7, .lastore, 1, 0, 0), (8, .goto 6, 3, 0, 0), (11, .astore_n 2, 1, 0, 0), (12, .iconst 1, 1, 0, 0), (13, .ireturn, 1, 0, 0), (14, .iconst 0, 1, 0, 0), (15, .ireturn, 1, 0, 0)]
/-- SerialGateLaw.likely(LSerialGate;[J)I -/
def mm_M364 : mm_M := (yL_likely, cL_likely, 3, (some .int), 12, false, [(0, 8, 11, 13)], [(0, 11, 1)], mm_k364)
theorem mm_d364 : mm_k364.all (fun q => mm_deq (decode cL_likely q.1) q.2.1 q.2.2.1) = true := by decide +kernel
def mm_k365 : List mm_I := [(0, .aload_n 1, 1, 0, 0), (1, .iconst 0, 1, 0, 0), (2, .aload_n 0, 1, 0, 0), (3, .invokevirtual 82, 3, 0, 166), (6, .i2l, 1, 0, 0), (7, .lastore, 1, 0, 0), (8, .goto 6, 3, 0, 0), (11, .astore_n 2, 1, 0, 0), (12, .iconst 1, 1, 0, 0), (13, .ireturn, 1, 0, 0), (14, .iconst 0, 1, 0, 0), (15, .ireturn, 1, 0, 0)]
/-- SerialGateLaw.ask(LSerialGate;[J)I -/
def mm_M365 : mm_M := (yL_ask, cL_ask, 3, (some .int), 12, false, [(0, 8, 11, 13)], [(0, 11, 1)], mm_k365)
theorem mm_d365 : mm_k365.all (fun q => mm_deq (decode cL_ask q.1) q.2.1 q.2.2.1) = true := by decide +kernel
def mm_k366 : List mm_I := [(0, .aload_n 2, 1, 0, 0), (1, .iconst 0, 1, 0, 0), (2, .aload_n 0, 1, 0, 0), (3, .iload_n 1, 1, 0, 0), (4, .invokevirtual 85, 3, 0, 158), (7, .i2l, 1, 0, 0), (8, .lastore, 1, 0, 0), (9, .goto 6, 3, 0, 0), (12, .astore_n 3, 1, 0, 0), (13, .iconst 1, 1, 0, 0), (14, .ireturn, 1, 0, 0), (15, .iconst 0, 1, 0, 0), (16, .ireturn, 1, 0, 0)]
/-- SerialGateLaw.pairs(LSerialGate;I[J)I -/
def mm_M366 : mm_M := (yL_pairs, cL_pairs, 4, (some .int), 12, false, [(0, 9, 12, 24)], [(2, 12, 1)], mm_k366)
theorem mm_d366 : mm_k366.all (fun q => mm_deq (decode cL_pairs q.1) q.2.1 q.2.2.1) = true := by decide +kernel
def mm_k367 : List mm_I := [(0, .aload_n 3, 1, 0, 0), (1, .iconst 0, 1, 0, 0), (2, .aload_n 0, 1, 0, 0), (3, .iload_n 1, 1, 0, 0), (4, .iload_n 2, 1, 0, 0), (5, .invokevirtual 88, 3, 0, 159), (8, .i2l, 1, 0, 0), (9, .lastore, 1, 0, 0), (10, .goto 11, 3, 0, 0), (13, .astore 4, 2, 0, 0), (15, .iconst 1, 1, 0, 0), (16, .ireturn, 1, 0, 0), (17, .astore 4, 2, 0, 0), (19, .iconst 2, 1, 0, 0), (20, .ireturn, 1, 0, 0), (21, .iconst 0, 1, 0, 0), (22, .ireturn, 1, 0, 0)]
/-- SerialGateLaw.rests(LSerialGate;II[J)I -/
def mm_M367 : mm_M := (yL_rests, cL_rests, 5, (some .int), 12, false, [(0, 10, 13, 24), (0, 10, 17, 13)], [(2, 13, 1), (0, 17, 2)], mm_k367)
theorem mm_d367 : mm_k367.all (fun q => mm_deq (decode cL_rests q.1) q.2.1 q.2.2.1) = true := by decide +kernel
def mm_k368 : List mm_I := [(0, .aload_n 3, 1, 0, 0), (1, .iconst 0, 1, 0, 0), (2, .aload_n 0, 1, 0, 0), (3, .iload_n 1, 1, 0, 0), (4, .iload_n 2, 1, 0, 0), (5, .invokevirtual 91, 3, 0, 160), (8, .i2l, 1, 0, 0), (9, .lastore, 1, 0, 0), (10, .goto 7, 3, 0, 0), (13, .astore 4, 2, 0, 0), (15, .iconst 1, 1, 0, 0), (16, .ireturn, 1, 0, 0), (17, .iconst 0, 1, 0, 0), (18, .ireturn, 1, 0, 0)]
/-- SerialGateLaw.odds(LSerialGate;II[J)I -/
def mm_M368 : mm_M := (yL_odds, cL_odds, 5, (some .int), 12, false, [(0, 10, 13, 13)], [(0, 13, 1)], mm_k368)
theorem mm_d368 : mm_k368.all (fun q => mm_deq (decode cL_odds q.1) q.2.1 q.2.2.1) = true := by decide +kernel
def mm_k369 : List mm_I := [(0, .aload_n 2, 1, 0, 0), (1, .iconst 0, 1, 0, 0), (2, .aload_n 0, 1, 0, 0), (3, .iload_n 1, 1, 0, 0), (4, .invokevirtual 94, 3, 0, 161), (7, .i2l, 1, 0, 0), (8, .lastore, 1, 0, 0), (9, .goto 6, 3, 0, 0), (12, .astore_n 3, 1, 0, 0), (13, .iconst 1, 1, 0, 0), (14, .ireturn, 1, 0, 0), (15, .iconst 0, 1, 0, 0), (16, .ireturn, 1, 0, 0)]
/-- SerialGateLaw.most(LSerialGate;I[J)I -/
def mm_M369 : mm_M := (yL_most, cL_most, 4, (some .int), 12, false, [(0, 9, 12, 26)], [(3, 12, 1)], mm_k369)
theorem mm_d369 : mm_k369.all (fun q => mm_deq (decode cL_most q.1) q.2.1 q.2.2.1) = true := by decide +kernel
def mm_k370 : List mm_I := [(0, .aload_n 3, 1, 0, 0), (1, .iconst 0, 1, 0, 0), (2, .aload_n 0, 1, 0, 0), (3, .iload_n 1, 1, 0, 0), (4, .iload_n 2, 1, 0, 0), (5, .invokevirtual 97, 3, 0, 171), (8, .i2l, 1, 0, 0), (9, .lastore, 1, 0, 0), (10, .goto 7, 3, 0, 0), (13, .astore 4, 2, 0, 0), (15, .iconst 1, 1, 0, 0), (16, .ireturn, 1, 0, 0), (17, .iconst 0, 1, 0, 0), (18, .ireturn, 1, 0, 0)]
/-- SerialGateLaw.trial(LSerialGate;IZ[J)I -/
def mm_M370 : mm_M := (yL_trial, cL_trial, 5, (some .int), 12, false, [(0, 10, 13, 13)], [(0, 13, 1)], mm_k370)
theorem mm_d370 : mm_k370.all (fun q => mm_deq (decode cL_trial q.1) q.2.1 q.2.2.1) = true := by decide +kernel
def mm_k371 : List mm_I := [(0, .aload_n 3, 1, 0, 0), (1, .iconst 0, 1, 0, 0), (2, .aload_n 0, 1, 0, 0), (3, .iload_n 1, 1, 0, 0), (4, .iload_n 2, 1, 0, 0), (5, .invokevirtual 101, 3, 0, 172), (8, .i2l, 1, 0, 0), (9, .lastore, 1, 0, 0), (10, .goto 7, 3, 0, 0), (13, .astore 4, 2, 0, 0), (15, .iconst 1, 1, 0, 0), (16, .ireturn, 1, 0, 0), (17, .iconst 0, 1, 0, 0), (18, .ireturn, 1, 0, 0)]
/-- SerialGateLaw.span(LSerialGate;IZ[J)I -/
def mm_M371 : mm_M := (yL_span, cL_span, 5, (some .int), 12, false, [(0, 10, 13, 13)], [(0, 13, 1)], mm_k371)
theorem mm_d371 : mm_k371.all (fun q => mm_deq (decode cL_span q.1) q.2.1 q.2.2.1) = true := by decide +kernel
def mm_k372 : List mm_I := [(0, .aload_n 3, 1, 0, 0), (1, .iconst 0, 1, 0, 0), (2, .aload_n 0, 1, 0, 0), (3, .iload_n 1, 1, 0, 0), (4, .iload_n 2, 1, 0, 0), (5, .invokevirtual 104, 3, 0, 152), (8, .i2l, 1, 0, 0), (9, .lastore, 1, 0, 0), (10, .goto 7, 3, 0, 0), (13, .astore 4, 2, 0, 0), (15, .iconst 1, 1, 0, 0), (16, .ireturn, 1, 0, 0), (17, .iconst 0, 1, 0, 0), (18, .ireturn, 1, 0, 0)]
/-- SerialGateLaw.led(LSerialGate;IZ[J)I -/
def mm_M372 : mm_M := (yL_led, cL_led, 5, (some .int), 12, false, [(0, 10, 13, 24)], [(2, 13, 1)], mm_k372)
theorem mm_d372 : mm_k372.all (fun q => mm_deq (decode cL_led q.1) q.2.1 q.2.2.1) = true := by decide +kernel
def mm_k373 : List mm_I := [(0, .aload_n 3, 1, 0, 0), (1, .iconst 0, 1, 0, 0), (2, .aload_n 0, 1, 0, 0), (3, .iload_n 1, 1, 0, 0), (4, .iload_n 2, 1, 0, 0), (5, .invokevirtual 107, 3, 0, 153), (8, .i2l, 1, 0, 0), (9, .lastore, 1, 0, 0), (10, .goto 7, 3, 0, 0), (13, .astore 4, 2, 0, 0), (15, .iconst 1, 1, 0, 0), (16, .ireturn, 1, 0, 0), (17, .iconst 0, 1, 0, 0), (18, .ireturn, 1, 0, 0)]
/-- SerialGateLaw.log(LSerialGate;II[J)I -/
def mm_M373 : mm_M := (yL_log, cL_log, 5, (some .int), 12, false, [(0, 10, 13, 26)], [(3, 13, 1)], mm_k373)
theorem mm_d373 : mm_k373.all (fun q => mm_deq (decode cL_log q.1) q.2.1 q.2.2.1) = true := by decide +kernel
def mm_k374 : List mm_I := [(0, .new 8, 3, 0, 10), (3, .dup, 1, 0, 0), (4, .invokespecial 110, 3, 0, 127), (7, .astore_n 1, 1, 0, 0), (8, .new 111, 3, 0, 11), (11, .dup, 1, 0, 0), (12, .invokespecial 113, 3, 0, 191), (15, .astore_n 2, 1, 0, 0), (16, .iconst 1, 1, 0, 0), (17, .newarray .long, 2, 0, 0), (19, .astore_n 3, 1, 0, 0), (20, .iconst 0, 1, 0, 0), (21, .istore 4, 2, 0, 0), (23, .iload 4, 2, 0, 0), (25, .aload_n 0, 1, 0, 0), (26, .arraylength, 1, 0, 0), (27, .bipush 6, 2, 0, 0), (29, .isub, 1, 0, 0), (30, .if_icmp .gt 2358, 3, 0, 0), (33, .aload_n 0, 1, 0, 0), (34, .iload 4, 2, 0, 0), (36, .iaload, 1, 0, 0), (37, .bipush 63, 2, 0, 0), (39, .iand, 1, 0, 0), (40, .tableswitch 2342 0 45 #[200, 273, 298, 342, 386, 399, 467, 535, 603, 671, 727, 783, 851, 926, 982, 1038, 1094, 1174, 1187, 1200, 1268, 1364, 1389, 1464, 1477, 1490, 1503, 1547, 1591, 1635, 1691, 1759, 1827, 1883, 1896, 1909, 1922, 1935, 2019, 2103, 2187, 2255, 2280, 2293, 2304, 2317], 200, 0, 0), (240, .aload_n 1, 1, 0, 0), (241, .aload_n 0, 1, 0, 0), (242, .iload 4, 2, 0, 0), (244, .iconst 1, 1, 0, 0), (245, .iadd, 1, 0, 0), (246, .iaload, 1, 0, 0), (247, .aload_n 0, 1, 0, 0), (248, .iload 4, 2, 0, 0), (250, .iconst 2, 1, 0, 0), (251, .iadd, 1, 0, 0), (252, .iaload, 1, 0, 0), (253, .aload_n 0, 1, 0, 0), (254, .iload 4, 2, 0, 0), (256, .iconst 3, 1, 0, 0), (257, .iadd, 1, 0, 0), (258, .iaload, 1, 0, 0), (259, .aload_n 0, 1, 0, 0), (260, .iload 4, 2, 0, 0), (262, .iconst 4, 1, 0, 0), (263, .iadd, 1, 0, 0), (264, .iaload, 1, 0, 0), (265, .aload_n 0, 1, 0, 0), (266, .iload 4, 2, 0, 0), (268, .iconst 5, 1, 0, 0), (269, .iadd, 1, 0, 0), (270, .iaload, 1, 0, 0), (271, .invokevirtual 114, 3, 0, 128), (274, .aload_n 2, 1, 0, 0), (275, .aload_n 0, 1, 0, 0), (276, .iload 4, 2, 0, 0), (278, .iconst 1, 1, 0, 0), (279, .iadd, 1, 0, 0), (280, .iaload, 1, 0, 0), (281, .aload_n 0, 1, 0, 0), (282, .iload 4, 2, 0, 0), (284, .iconst 2, 1, 0, 0), (285, .iadd, 1, 0, 0), (286, .iaload, 1, 0, 0), (287, .aload_n 0, 1, 0, 0), (288, .iload 4, 2, 0, 0), (290, .iconst 3, 1, 0, 0), (291, .iadd, 1, 0, 0), (292, .iaload, 1, 0, 0), (293, .aload_n 0, 1, 0, 0), (294, .iload 4, 2, 0, 0), (296, .iconst 4, 1, 0, 0), (297, .iadd, 1, 0, 0), (298, .iaload, 1, 0, 0), (299, .aload_n 0, 1, 0, 0), (300, .iload 4, 2, 0, 0), (302, .iconst 5, 1, 0, 0), (303, .iadd, 1, 0, 0), (304, .iaload, 1, 0, 0), (305, .invokevirtual 118, 3, 0, 213), (308, .if_icmp .eq 2074, 3, 0, 0), (311, .iconst 0, 1, 0, 0), (312, .ireturn, 1, 0, 0), (313, .aload_n 1, 1, 0, 0), (314, .aload_n 0, 1, 0, 0), (315, .iload 4, 2, 0, 0), (317, .iconst 1, 1, 0, 0), (318, .iadd, 1, 0, 0), (319, .iaload, 1, 0, 0), (320, .invokevirtual 119, 3, 0, 129), (323, .aload_n 2, 1, 0, 0), (324, .aload_n 0, 1, 0, 0), (325, .iload 4, 2, 0, 0), (327, .iconst 1, 1, 0, 0), (328, .iadd, 1, 0, 0), (329, .iaload, 1, 0, 0), (330, .invokevirtual 123, 3, 0, 214), (333, .if_icmp .eq 2049, 3, 0, 0), (336, .iconst 0, 1, 0, 0), (337, .ireturn, 1, 0, 0), (338, .aload_n 1, 1, 0, 0), (339, .aload_n 3, 1, 0, 0), (340, .invokestatic 124, 3, 0, 346), (343, .istore 5, 2, 0, 0), (345, .aload_n 2, 1, 0, 0), (346, .invokevirtual 129, 3, 0, 241), (349, .istore 6, 2, 0, 0), (351, .aload_n 2, 1, 0, 0), (352, .invokevirtual 130, 3, 0, 187), (355, .iload 5, 2, 0, 0), (357, .if_icmp .eq 5, 3, 0, 0), (360, .iconst 0, 1, 0, 0), (361, .ireturn, 1, 0, 0), (362, .iload 5, 2, 0, 0), (364, .ifCond .ne 15, 3, 0, 0), (367, .aload_n 3, 1, 0, 0), (368, .iconst 0, 1, 0, 0), (369, .laload, 1, 0, 0), (370, .iload 6, 2, 0, 0), (372, .i2l, 1, 0, 0), (373, .lcmp, 1, 0, 0), (374, .ifCond .eq 5, 3, 0, 0), (377, .iconst 0, 1, 0, 0), (378, .ireturn, 1, 0, 0), (379, .goto 2003, 3, 0, 0), (382, .aload_n 1, 1, 0, 0), (383, .aload_n 3, 1, 0, 0), (384, .invokestatic 133, 3, 0, 347), (387, .istore 5, 2, 0, 0), (389, .aload_n 2, 1, 0, 0), (390, .invokevirtual 135, 3, 0, 242), (393, .istore 6, 2, 0, 0), (395, .aload_n 2, 1, 0, 0), (396, .invokevirtual 130, 3, 0, 187), (399, .iload 5, 2, 0, 0), (401, .if_icmp .eq 5, 3, 0, 0), (404, .iconst 0, 1, 0, 0), (405, .ireturn, 1, 0, 0), (406, .iload 5, 2, 0, 0), (408, .ifCond .ne 15, 3, 0, 0), (411, .aload_n 3, 1, 0, 0), (412, .iconst 0, 1, 0, 0), (413, .laload, 1, 0, 0), (414, .iload 6, 2, 0, 0), (416, .i2l, 1, 0, 0), (417, .lcmp, 1, 0, 0), (418, .ifCond .eq 5, 3, 0, 0), (421, .iconst 0, 1, 0, 0), (422, .ireturn, 1, 0, 0), (423, .goto 1959, 3, 0, 0), (426, .aload_n 1, 1, 0, 0), (427, .invokevirtual 136, 3, 0, 132), (430, .aload_n 2, 1, 0, 0), (431, .invokevirtual 139, 3, 0, 223), (434, .if_icmp .eq 1948, 3, 0, 0), (437, .iconst 0, 1, 0, 0), (438, .ireturn, 1, 0, 0), (439, .aload_n 1, 1, 0, 0), (440, .aload_n 0, 1, 0, 0), (441, .iload 4, 2, 0, 0), (443, .iconst 1, 1, 0, 0), (444, .iadd, 1, 0, 0), (445, .iaload, 1, 0, 0), (446, .aload_n 0, 1, 0, 0), (447, .iload 4, 2, 0, 0), (449, .iconst 2, 1, 0, 0), (450, .iadd, 1, 0, 0), (451, .iaload, 1, 0, 0), (452, .aload_n 3, 1, 0, 0), (453, .invokestatic 140, 3, 0, 348), (456, .istore 5, 2, 0, 0), (458, .aload_n 2, 1, 0, 0), (459, .aload_n 0, 1, 0, 0), (460, .iload 4, 2, 0, 0), (462, .iconst 1, 1, 0, 0), (463, .iadd, 1, 0, 0), (464, .iaload, 1, 0, 0), (465, .aload_n 0, 1, 0, 0), (466, .iload 4, 2, 0, 0), (468, .iconst 2, 1, 0, 0), (469, .iadd, 1, 0, 0), (470, .iaload, 1, 0, 0), (471, .invokevirtual 143, 3, 0, 276), (474, .istore 6, 2, 0, 0), (476, .aload_n 2, 1, 0, 0), (477, .invokevirtual 130, 3, 0, 187), (480, .iload 5, 2, 0, 0), (482, .if_icmp .eq 5, 3, 0, 0), (485, .iconst 0, 1, 0, 0), (486, .ireturn, 1, 0, 0), (487, .iload 5, 2, 0, 0), (489, .ifCond .ne 15, 3, 0, 0), (492, .aload_n 3, 1, 0, 0), (493, .iconst 0, 1, 0, 0), (494, .laload, 1, 0, 0), (495, .iload 6, 2, 0, 0), (497, .i2l, 1, 0, 0), (498, .lcmp, 1, 0, 0), (499, .ifCond .eq 5, 3, 0, 0), (502, .iconst 0, 1, 0, 0), (503, .ireturn, 1, 0, 0), (504, .goto 1878, 3, 0, 0), (507, .aload_n 1, 1, 0, 0), (508, .aload_n 0, 1, 0, 0), (509, .iload 4, 2, 0, 0), (511, .iconst 1, 1, 0, 0), (512, .iadd, 1, 0, 0), (513, .iaload, 1, 0, 0), (514, .aload_n 0, 1, 0, 0), (515, .iload 4, 2, 0, 0), (517, .iconst 2, 1, 0, 0), (518, .iadd, 1, 0, 0), (519, .iaload, 1, 0, 0), (520, .aload_n 3, 1, 0, 0), (521, .invokestatic 144, 3, 0, 349), (524, .istore 5, 2, 0, 0), (526, .aload_n 2, 1, 0, 0), (527, .aload_n 0, 1, 0, 0), (528, .iload 4, 2, 0, 0), (530, .iconst 1, 1, 0, 0), (531, .iadd, 1, 0, 0), (532, .iaload, 1, 0, 0), (533, .aload_n 0, 1, 0, 0), (534, .iload 4, 2, 0, 0), (536, .iconst 2, 1, 0, 0), (537, .iadd, 1, 0, 0), (538, .iaload, 1, 0, 0), (539, .invokevirtual 146, 3, 0, 277), (542, .istore 6, 2, 0, 0), (544, .aload_n 2, 1, 0, 0), (545, .invokevirtual 130, 3, 0, 187), (548, .iload 5, 2, 0, 0), (550, .if_icmp .eq 5, 3, 0, 0), (553, .iconst 0, 1, 0, 0), (554, .ireturn, 1, 0, 0), (555, .iload 5, 2, 0, 0), (557, .ifCond .ne 15, 3, 0, 0), (560, .aload_n 3, 1, 0, 0), (561, .iconst 0, 1, 0, 0), (562, .laload, 1, 0, 0), (563, .iload 6, 2, 0, 0), (565, .i2l, 1, 0, 0), (566, .lcmp, 1, 0, 0), (567, .ifCond .eq 5, 3, 0, 0), (570, .iconst 0, 1, 0, 0), (571, .ireturn, 1, 0, 0), (572, .goto 1810, 3, 0, 0), (575, .aload_n 1, 1, 0, 0), (576, .aload_n 0, 1, 0, 0), (577, .iload 4, 2, 0, 0), (579, .iconst 1, 1, 0, 0), (580, .iadd, 1, 0, 0), (581, .iaload, 1, 0, 0), (582, .aload_n 0, 1, 0, 0), (583, .iload 4, 2, 0, 0), (585, .iconst 2, 1, 0, 0), (586, .iadd, 1, 0, 0), (587, .iaload, 1, 0, 0), (588, .aload_n 3, 1, 0, 0), (589, .invokestatic 147, 3, 0, 350), (592, .istore 5, 2, 0, 0), (594, .aload_n 2, 1, 0, 0), (595, .aload_n 0, 1, 0, 0), (596, .iload 4, 2, 0, 0), (598, .iconst 1, 1, 0, 0), (599, .iadd, 1, 0, 0), (600, .iaload, 1, 0, 0), (601, .aload_n 0, 1, 0, 0), (602, .iload 4, 2, 0, 0), (604, .iconst 2, 1, 0, 0), (605, .iadd, 1, 0, 0), (606, .iaload, 1, 0, 0), (607, .invokevirtual 149, 3, 0, 278), (610, .istore 6, 2, 0, 0), (612, .aload_n 2, 1, 0, 0), (613, .invokevirtual 130, 3, 0, 187), (616, .iload 5, 2, 0, 0), (618, .if_icmp .eq 5, 3, 0, 0), (621, .iconst 0, 1, 0, 0), (622, .ireturn, 1, 0, 0), (623, .iload 5, 2, 0, 0), (625, .ifCond .ne 15, 3, 0, 0), (628, .aload_n 3, 1, 0, 0), (629, .iconst 0, 1, 0, 0), (630, .laload, 1, 0, 0), (631, .iload 6, 2, 0, 0), (633, .i2l, 1, 0, 0), (634, .lcmp, 1, 0, 0), (635, .ifCond .eq 5, 3, 0, 0), (638, .iconst 0, 1, 0, 0), (639, .ireturn, 1, 0, 0), (640, .goto 1742, 3, 0, 0), (643, .aload_n 1, 1, 0, 0), (644, .aload_n 0, 1, 0, 0), (645, .iload 4, 2, 0, 0), (647, .iconst 1, 1, 0, 0), (648, .iadd, 1, 0, 0), (649, .iaload, 1, 0, 0), (650, .aload_n 0, 1, 0, 0), (651, .iload 4, 2, 0, 0), (653, .iconst 2, 1, 0, 0), (654, .iadd, 1, 0, 0), (655, .iaload, 1, 0, 0), (656, .aload_n 3, 1, 0, 0), (657, .invokestatic 150, 3, 0, 351), (660, .istore 5, 2, 0, 0), (662, .aload_n 2, 1, 0, 0), (663, .aload_n 0, 1, 0, 0), (664, .iload 4, 2, 0, 0), (666, .iconst 1, 1, 0, 0), (667, .iadd, 1, 0, 0), (668, .iaload, 1, 0, 0), (669, .aload_n 0, 1, 0, 0), (670, .iload 4, 2, 0, 0), (672, .iconst 2, 1, 0, 0), (673, .iadd, 1, 0, 0), (674, .iaload, 1, 0, 0), (675, .invokevirtual 152, 3, 0, 280), (678, .istore 6, 2, 0, 0), (680, .aload_n 2, 1, 0, 0), (681, .invokevirtual 130, 3, 0, 187), (684, .iload 5, 2, 0, 0), (686, .if_icmp .eq 5, 3, 0, 0), (689, .iconst 0, 1, 0, 0), (690, .ireturn, 1, 0, 0), (691, .iload 5, 2, 0, 0), (693, .ifCond .ne 15, 3, 0, 0), (696, .aload_n 3, 1, 0, 0), (697, .iconst 0, 1, 0, 0), (698, .laload, 1, 0, 0), (699, .iload 6, 2, 0, 0), (701, .i2l, 1, 0, 0), (702, .lcmp, 1, 0, 0), (703, .ifCond .eq 5, 3, 0, 0), (706, .iconst 0, 1, 0, 0), (707, .ireturn, 1, 0, 0), (708, .goto 1674, 3, 0, 0), (711, .aload_n 1, 1, 0, 0), (712, .aload_n 0, 1, 0, 0), (713, .iload 4, 2, 0, 0), (715, .iconst 1, 1, 0, 0), (716, .iadd, 1, 0, 0), (717, .iaload, 1, 0, 0), (718, .aload_n 3, 1, 0, 0), (719, .invokestatic 153, 3, 0, 352), (722, .istore 5, 2, 0, 0), (724, .aload_n 2, 1, 0, 0), (725, .aload_n 0, 1, 0, 0), (726, .iload 4, 2, 0, 0), (728, .iconst 1, 1, 0, 0), (729, .iadd, 1, 0, 0), (730, .iaload, 1, 0, 0), (731, .invokevirtual 156, 3, 0, 281), (734, .istore 6, 2, 0, 0), (736, .aload_n 2, 1, 0, 0), (737, .invokevirtual 130, 3, 0, 187), (740, .iload 5, 2, 0, 0), (742, .if_icmp .eq 5, 3, 0, 0), (745, .iconst 0, 1, 0, 0), (746, .ireturn, 1, 0, 0), (747, .iload 5, 2, 0, 0), (749, .ifCond .ne 15, 3, 0, 0), (752, .aload_n 3, 1, 0, 0), (753, .iconst 0, 1, 0, 0), (754, .laload, 1, 0, 0), (755, .iload 6, 2, 0, 0), (757, .i2l, 1, 0, 0), (758, .lcmp, 1, 0, 0), (759, .ifCond .eq 5, 3, 0, 0), (762, .iconst 0, 1, 0, 0), (763, .ireturn, 1, 0, 0), (764, .goto 1618, 3, 0, 0), (767, .aload_n 1, 1, 0, 0), (768, .aload_n 0, 1, 0, 0), (769, .iload 4, 2, 0, 0), (771, .iconst 1, 1, 0, 0), (772, .iadd, 1, 0, 0), (773, .iaload, 1, 0, 0), (774, .aload_n 3, 1, 0, 0), (775, .invokestatic 157, 3, 0, 353), (778, .istore 5, 2, 0, 0), (780, .aload_n 2, 1, 0, 0), (781, .aload_n 0, 1, 0, 0), (782, .iload 4, 2, 0, 0), (784, .iconst 1, 1, 0, 0), (785, .iadd, 1, 0, 0), (786, .iaload, 1, 0, 0), (787, .invokevirtual 159, 3, 0, 282), (790, .istore 6, 2, 0, 0), (792, .aload_n 2, 1, 0, 0), (793, .invokevirtual 130, 3, 0, 187), (796, .iload 5, 2, 0, 0), (798, .if_icmp .eq 5, 3, 0, 0), (801, .iconst 0, 1, 0, 0), (802, .ireturn, 1, 0, 0), (803, .iload 5, 2, 0, 0), (805, .ifCond .ne 15, 3, 0, 0), (808, .aload_n 3, 1, 0, 0), (809, .iconst 0, 1, 0, 0), (810, .laload, 1, 0, 0), (811, .iload 6, 2, 0, 0), (813, .i2l, 1, 0, 0), (814, .lcmp, 1, 0, 0), (815, .ifCond .eq 5, 3, 0, 0), (818, .iconst 0, 1, 0, 0), (819, .ireturn, 1, 0, 0), (820, .goto 1562, 3, 0, 0), (823, .aload_n 1, 1, 0, 0), (824, .aload_n 0, 1, 0, 0), (825, .iload 4, 2, 0, 0), (827, .iconst 1, 1, 0, 0), (828, .iadd, 1, 0, 0), (829, .iaload, 1, 0, 0), (830, .aload_n 0, 1, 0, 0), (831, .iload 4, 2, 0, 0), (833, .iconst 2, 1, 0, 0), (834, .iadd, 1, 0, 0), (835, .iaload, 1, 0, 0), (836, .aload_n 3, 1, 0, 0), (837, .invokestatic 160, 3, 0, 354), (840, .istore 5, 2, 0, 0), (842, .aload_n 2, 1, 0, 0), (843, .aload_n 0, 1, 0, 0), (844, .iload 4, 2, 0, 0), (846, .iconst 1, 1, 0, 0), (847, .iadd, 1, 0, 0), (848, .iaload, 1, 0, 0), (849, .aload_n 0, 1, 0, 0), (850, .iload 4, 2, 0, 0), (852, .iconst 2, 1, 0, 0), (853, .iadd, 1, 0, 0), (854, .iaload, 1, 0, 0), (855, .invokevirtual 162, 3, 0, 284), (858, .istore 6, 2, 0, 0), (860, .aload_n 2, 1, 0, 0), (861, .invokevirtual 130, 3, 0, 187), (864, .iload 5, 2, 0, 0), (866, .if_icmp .eq 5, 3, 0, 0), (869, .iconst 0, 1, 0, 0), (870, .ireturn, 1, 0, 0), (871, .iload 5, 2, 0, 0), (873, .ifCond .ne 15, 3, 0, 0), (876, .aload_n 3, 1, 0, 0), (877, .iconst 0, 1, 0, 0), (878, .laload, 1, 0, 0), (879, .iload 6, 2, 0, 0), (881, .i2l, 1, 0, 0), (882, .lcmp, 1, 0, 0), (883, .ifCond .eq 5, 3, 0, 0), (886, .iconst 0, 1, 0, 0), (887, .ireturn, 1, 0, 0), (888, .goto 1494, 3, 0, 0), (891, .aload_n 1, 1, 0, 0), (892, .aload_n 0, 1, 0, 0), (893, .iload 4, 2, 0, 0), (895, .iconst 1, 1, 0, 0), (896, .iadd, 1, 0, 0), (897, .iaload, 1, 0, 0), (898, .aload_n 0, 1, 0, 0), (899, .iload 4, 2, 0, 0), (901, .iconst 2, 1, 0, 0), (902, .iadd, 1, 0, 0), (903, .iaload, 1, 0, 0), (904, .aload_n 3, 1, 0, 0), (905, .invokestatic 163, 3, 0, 355), (908, .istore 5, 2, 0, 0), (910, .aload_n 2, 1, 0, 0), (911, .aload_n 0, 1, 0, 0), (912, .iload 4, 2, 0, 0), (914, .iconst 1, 1, 0, 0), (915, .iadd, 1, 0, 0), (916, .iaload, 1, 0, 0), (917, .aload_n 0, 1, 0, 0), (918, .iload 4, 2, 0, 0), (920, .iconst 2, 1, 0, 0), (921, .iadd, 1, 0, 0), (922, .iaload, 1, 0, 0), (923, .invokevirtual 165, 3, 0, 285), (926, .istore 6, 2, 0, 0), (928, .aload_n 2, 1, 0, 0), (929, .invokevirtual 130, 3, 0, 187), (932, .iload 5, 2, 0, 0), (934, .if_icmp .eq 5, 3, 0, 0), (937, .iconst 0, 1, 0, 0), (938, .ireturn, 1, 0, 0), (939, .iload 5, 2, 0, 0), (941, .ifCond .ne 22, 3, 0, 0), (944, .aload_n 3, 1, 0, 0), (945, .iconst 0, 1, 0, 0), (946, .laload, 1, 0, 0), (947, .iload 6, 2, 0, 0), (949, .ifCond .eq 7, 3, 0, 0), (952, .lconst 1, 1, 0, 0), (953, .goto 4, 3, 0, 0), (956, .lconst 0, 1, 0, 0), (957, .lcmp, 1, 0, 0), (958, .ifCond .eq 5, 3, 0, 0), (961, .iconst 0, 1, 0, 0), (962, .ireturn, 1, 0, 0), (963, .goto 1419, 3, 0, 0), (966, .aload_n 1, 1, 0, 0), (967, .aload_n 0, 1, 0, 0), (968, .iload 4, 2, 0, 0), (970, .iconst 1, 1, 0, 0), (971, .iadd, 1, 0, 0), (972, .iaload, 1, 0, 0), (973, .aload_n 3, 1, 0, 0), (974, .invokestatic 166, 3, 0, 356), (977, .istore 5, 2, 0, 0), (979, .aload_n 2, 1, 0, 0), (980, .aload_n 0, 1, 0, 0), (981, .iload 4, 2, 0, 0), (983, .iconst 1, 1, 0, 0), (984, .iadd, 1, 0, 0), (985, .iaload, 1, 0, 0), (986, .invokevirtual 168, 3, 0, 287), (989, .istore 6, 2, 0, 0), (991, .aload_n 2, 1, 0, 0), (992, .invokevirtual 130, 3, 0, 187), (995, .iload 5, 2, 0, 0), (997, .if_icmp .eq 5, 3, 0, 0), (1000, .iconst 0, 1, 0, 0), (1001, .ireturn, 1, 0, 0), (1002, .iload 5, 2, 0, 0), (1004, .ifCond .ne 15, 3, 0, 0), (1007, .aload_n 3, 1, 0, 0), (1008, .iconst 0, 1, 0, 0), (1009, .laload, 1, 0, 0), (1010, .iload 6, 2, 0, 0), (1012, .i2l, 1, 0, 0), (1013, .lcmp, 1, 0, 0), (1014, .ifCond .eq 5, 3, 0, 0), (1017, .iconst 0, 1, 0, 0), (1018, .ireturn, 1, 0, 0), (1019, .goto 1363, 3, 0, 0), (1022, .aload_n 1, 1, 0, 0), (1023, .aload_n 0, 1, 0, 0), (1024, .iload 4, 2, 0, 0), (1026, .iconst 1, 1, 0, 0), (1027, .iadd, 1, 0, 0), (1028, .iaload, 1, 0, 0), (1029, .aload_n 3, 1, 0, 0), (1030, .invokestatic 169, 3, 0, 357), (1033, .istore 5, 2, 0, 0), (1035, .aload_n 2, 1, 0, 0), (1036, .aload_n 0, 1, 0, 0), (1037, .iload 4, 2, 0, 0), (1039, .iconst 1, 1, 0, 0), (1040, .iadd, 1, 0, 0), (1041, .iaload, 1, 0, 0), (1042, .invokevirtual 171, 3, 0, 288), (1045, .istore 6, 2, 0, 0), (1047, .aload_n 2, 1, 0, 0), (1048, .invokevirtual 130, 3, 0, 187), (1051, .iload 5, 2, 0, 0), (1053, .if_icmp .eq 5, 3, 0, 0), (1056, .iconst 0, 1, 0, 0), (1057, .ireturn, 1, 0, 0), (1058, .iload 5, 2, 0, 0), (1060, .ifCond .ne 15, 3, 0, 0), (1063, .aload_n 3, 1, 0, 0), (1064, .iconst 0, 1, 0, 0), (1065, .laload, 1, 0, 0), (1066, .iload 6, 2, 0, 0), (1068, .i2l, 1, 0, 0), (1069, .lcmp, 1, 0, 0), (1070, .ifCond .eq 5, 3, 0, 0), (1073, .iconst 0, 1, 0, 0), (1074, .ireturn, 1, 0, 0), (1075, .goto 1307, 3, 0, 0), (1078, .aload_n 1, 1, 0, 0), (1079, .aload_n 0, 1, 0, 0), (1080, .iload 4, 2, 0, 0), (1082, .iconst 1, 1, 0, 0), (1083, .iadd, 1, 0, 0), (1084, .iaload, 1, 0, 0), (1085, .aload_n 3, 1, 0, 0), (1086, .invokestatic 172, 3, 0, 358), (1089, .istore 5, 2, 0, 0), (1091, .aload_n 2, 1, 0, 0), (1092, .aload_n 0, 1, 0, 0), (1093, .iload 4, 2, 0, 0), (1095, .iconst 1, 1, 0, 0), (1096, .iadd, 1, 0, 0), (1097, .iaload, 1, 0, 0), (1098, .invokevirtual 174, 3, 0, 289), (1101, .istore 6, 2, 0, 0), (1103, .aload_n 2, 1, 0, 0), (1104, .invokevirtual 130, 3, 0, 187), (1107, .iload 5, 2, 0, 0), (1109, .if_icmp .eq 5, 3, 0, 0), (1112, .iconst 0, 1, 0, 0), (1113, .ireturn, 1, 0, 0), (1114, .iload 5, 2, 0, 0), (1116, .ifCond .ne 15, 3, 0, 0), (1119, .aload_n 3, 1, 0, 0), (1120, .iconst 0, 1, 0, 0), (1121, .laload, 1, 0, 0), (1122, .iload 6, 2, 0, 0), (1124, .i2l, 1, 0, 0), (1125, .lcmp, 1, 0, 0), (1126, .ifCond .eq 5, 3, 0, 0), (1129, .iconst 0, 1, 0, 0), (1130, .ireturn, 1, 0, 0), (1131, .goto 1251, 3, 0, 0), (1134, .aload_n 1, 1, 0, 0), (1135, .aload_n 0, 1, 0, 0), (1136, .iload 4, 2, 0, 0), (1138, .iconst 1, 1, 0, 0), (1139, .iadd, 1, 0, 0), (1140, .iaload, 1, 0, 0), (1141, .aload_n 0, 1, 0, 0), (1142, .iload 4, 2, 0, 0), (1144, .iconst 2, 1, 0, 0), (1145, .iadd, 1, 0, 0), (1146, .iaload, 1, 0, 0), (1147, .aload_n 0, 1, 0, 0), (1148, .iload 4, 2, 0, 0), (1150, .iconst 3, 1, 0, 0), (1151, .iadd, 1, 0, 0), (1152, .iaload, 1, 0, 0), (1153, .aload_n 3, 1, 0, 0), (1154, .invokestatic 175, 3, 0, 359), (1157, .istore 5, 2, 0, 0), (1159, .aload_n 2, 1, 0, 0), (1160, .aload_n 0, 1, 0, 0), (1161, .iload 4, 2, 0, 0), (1163, .iconst 1, 1, 0, 0), (1164, .iadd, 1, 0, 0), (1165, .iaload, 1, 0, 0), (1166, .aload_n 0, 1, 0, 0), (1167, .iload 4, 2, 0, 0), (1169, .iconst 2, 1, 0, 0), (1170, .iadd, 1, 0, 0), (1171, .iaload, 1, 0, 0), (1172, .aload_n 0, 1, 0, 0), (1173, .iload 4, 2, 0, 0), (1175, .iconst 3, 1, 0, 0), (1176, .iadd, 1, 0, 0), (1177, .iaload, 1, 0, 0), (1178, .invokevirtual 178, 3, 0, 290), (1181, .istore 6, 2, 0, 0), (1183, .aload_n 2, 1, 0, 0), (1184, .invokevirtual 130, 3, 0, 187), (1187, .iload 5, 2, 0, 0), (1189, .if_icmp .eq 5, 3, 0, 0), (1192, .iconst 0, 1, 0, 0), (1193, .ireturn, 1, 0, 0), (1194, .iload 5, 2, 0, 0), (1196, .ifCond .ne 15, 3, 0, 0), (1199, .aload_n 3, 1, 0, 0), (1200, .iconst 0, 1, 0, 0), (1201, .laload, 1, 0, 0), (1202, .iload 6, 2, 0, 0), (1204, .i2l, 1, 0, 0), (1205, .lcmp, 1, 0, 0), (1206, .ifCond .eq 5, 3, 0, 0), (1209, .iconst 0, 1, 0, 0), (1210, .ireturn, 1, 0, 0), (1211, .goto 1171, 3, 0, 0), (1214, .aload_n 1, 1, 0, 0), (1215, .invokevirtual 179, 3, 0, 147), (1218, .aload_n 2, 1, 0, 0), (1219, .invokevirtual 182, 3, 0, 291), (1222, .if_icmp .eq 1160, 3, 0, 0), (1225, .iconst 0, 1, 0, 0), (1226, .ireturn, 1, 0, 0), (1227, .aload_n 1, 1, 0, 0), (1228, .invokevirtual 183, 3, 0, 148), (1231, .aload_n 2, 1, 0, 0), (1232, .invokevirtual 186, 3, 0, 293), (1235, .if_icmp .eq 1147, 3, 0, 0), (1238, .iconst 0, 1, 0, 0), (1239, .ireturn, 1, 0, 0), (1240, .aload_n 1, 1, 0, 0), (1241, .aload_n 0, 1, 0, 0), (1242, .iload 4, 2, 0, 0), (1244, .iconst 1, 1, 0, 0), (1245, .iadd, 1, 0, 0), (1246, .iaload, 1, 0, 0), (1247, .aload_n 0, 1, 0, 0), (1248, .iload 4, 2, 0, 0), (1250, .iconst 2, 1, 0, 0), (1251, .iadd, 1, 0, 0), (1252, .iaload, 1, 0, 0), (1253, .aload_n 3, 1, 0, 0), (1254, .invokestatic 187, 3, 0, 360), (1257, .istore 5, 2, 0, 0), (1259, .aload_n 2, 1, 0, 0), (1260, .aload_n 0, 1, 0, 0), (1261, .iload 4, 2, 0, 0), (1263, .iconst 1, 1, 0, 0), (1264, .iadd, 1, 0, 0), (1265, .iaload, 1, 0, 0), (1266, .aload_n 0, 1, 0, 0), (1267, .iload 4, 2, 0, 0), (1269, .iconst 2, 1, 0, 0), (1270, .iadd, 1, 0, 0), (1271, .iaload, 1, 0, 0), (1272, .invokevirtual 189, 3, 0, 295), (1275, .istore 6, 2, 0, 0), (1277, .aload_n 2, 1, 0, 0), (1278, .invokevirtual 130, 3, 0, 187), (1281, .iload 5, 2, 0, 0), (1283, .if_icmp .eq 5, 3, 0, 0), (1286, .iconst 0, 1, 0, 0), (1287, .ireturn, 1, 0, 0), (1288, .iload 5, 2, 0, 0), (1290, .ifCond .ne 15, 3, 0, 0), (1293, .aload_n 3, 1, 0, 0), (1294, .iconst 0, 1, 0, 0), (1295, .laload, 1, 0, 0), (1296, .iload 6, 2, 0, 0), (1298, .i2l, 1, 0, 0), (1299, .lcmp, 1, 0, 0), (1300, .ifCond .eq 5, 3, 0, 0), (1303, .iconst 0, 1, 0, 0), (1304, .ireturn, 1, 0, 0), (1305, .goto 1077, 3, 0, 0), (1308, .aload_n 1, 1, 0, 0), (1309, .aload_n 0, 1, 0, 0), (1310, .iload 4, 2, 0, 0), (1312, .iconst 1, 1, 0, 0), (1313, .iadd, 1, 0, 0), (1314, .iaload, 1, 0, 0), (1315, .aload_n 0, 1, 0, 0), (1316, .iload 4, 2, 0, 0), (1318, .iconst 2, 1, 0, 0), (1319, .iadd, 1, 0, 0), (1320, .iaload, 1, 0, 0), (1321, .aload_n 0, 1, 0, 0), (1322, .iload 4, 2, 0, 0), (1324, .iconst 3, 1, 0, 0), (1325, .iadd, 1, 0, 0), (1326, .iaload, 1, 0, 0), (1327, .ifCond .eq 7, 3, 0, 0), (1330, .iconst 1, 1, 0, 0), (1331, .goto 4, 3, 0, 0), (1334, .iconst 0, 1, 0, 0), (1335, .aload_n 3, 1, 0, 0), (1336, .invokestatic 190, 3, 0, 361), (1339, .istore 5, 2, 0, 0), (1341, .aload_n 2, 1, 0, 0), (1342, .aload_n 0, 1, 0, 0), (1343, .iload 4, 2, 0, 0), (1345, .iconst 1, 1, 0, 0), (1346, .iadd, 1, 0, 0), (1347, .iaload, 1, 0, 0), (1348, .aload_n 0, 1, 0, 0), (1349, .iload 4, 2, 0, 0), (1351, .iconst 2, 1, 0, 0), (1352, .iadd, 1, 0, 0), (1353, .iaload, 1, 0, 0), (1354, .aload_n 0, 1, 0, 0), (1355, .iload 4, 2, 0, 0), (1357, .iconst 3, 1, 0, 0), (1358, .iadd, 1, 0, 0), (1359, .iaload, 1, 0, 0), (1360, .ifCond .eq 7, 3, 0, 0), (1363, .iconst 1, 1, 0, 0), (1364, .goto 4, 3, 0, 0), (1367, .iconst 0, 1, 0, 0), (1368, .invokevirtual 193, 3, 0, 297), (1371, .istore 6, 2, 0, 0), (1373, .aload_n 2, 1, 0, 0), (1374, .invokevirtual 130, 3, 0, 187), (1377, .iload 5, 2, 0, 0), (1379, .if_icmp .eq 5, 3, 0, 0), (1382, .iconst 0, 1, 0, 0), (1383, .ireturn, 1, 0, 0), (1384, .iload 5, 2, 0, 0), (1386, .ifCond .ne 15, 3, 0, 0), (1389, .aload_n 3, 1, 0, 0), (1390, .iconst 0, 1, 0, 0), (1391, .laload, 1, 0, 0), (1392, .iload 6, 2, 0, 0), (1394, .i2l, 1, 0, 0), (1395, .lcmp, 1, 0, 0), (1396, .ifCond .eq 5, 3, 0, 0), (1399, .iconst 0, 1, 0, 0), (1400, .ireturn, 1, 0, 0), (1401, .goto 981, 3, 0, 0), (1404, .aload_n 1, 1, 0, 0), (1405, .aload_n 0, 1, 0, 0), (1406, .iload 4, 2, 0, 0), (1408, .iconst 1, 1, 0, 0), (1409, .iadd, 1, 0, 0), (1410, .iaload, 1, 0, 0), (1411, .invokevirtual 194, 3, 0, 151), (1414, .aload_n 2, 1, 0, 0), (1415, .aload_n 0, 1, 0, 0), (1416, .iload 4, 2, 0, 0), (1418, .iconst 1, 1, 0, 0), (1419, .iadd, 1, 0, 0), (1420, .iaload, 1, 0, 0), (1421, .invokevirtual 197, 3, 0, 300), (1424, .if_icmp .eq 958, 3, 0, 0), (1427, .iconst 0, 1, 0, 0), (1428, .ireturn, 1, 0, 0), (1429, .aload_n 1, 1, 0, 0), (1430, .aload_n 0, 1, 0, 0), (1431, .iload 4, 2, 0, 0), (1433, .iconst 1, 1, 0, 0), (1434, .iadd, 1, 0, 0), (1435, .iaload, 1, 0, 0), (1436, .aload_n 0, 1, 0, 0), (1437, .iload 4, 2, 0, 0), (1439, .iconst 2, 1, 0, 0), (1440, .iadd, 1, 0, 0), (1441, .iaload, 1, 0, 0), (1442, .aload_n 3, 1, 0, 0), (1443, .invokestatic 198, 3, 0, 362), (1446, .istore 5, 2, 0, 0), (1448, .aload_n 2, 1, 0, 0), (1449, .aload_n 0, 1, 0, 0), (1450, .iload 4, 2, 0, 0), (1452, .iconst 1, 1, 0, 0), (1453, .iadd, 1, 0, 0), (1454, .iaload, 1, 0, 0), (1455, .aload_n 0, 1, 0, 0), (1456, .iload 4, 2, 0, 0), (1458, .iconst 2, 1, 0, 0), (1459, .iadd, 1, 0, 0), (1460, .iaload, 1, 0, 0), (1461, .invokevirtual 200, 3, 0, 304), (1464, .istore 6, 2, 0, 0), (1466, .aload_n 2, 1, 0, 0), (1467, .invokevirtual 130, 3, 0, 187), (1470, .iload 5, 2, 0, 0), (1472, .if_icmp .eq 5, 3, 0, 0), (1475, .iconst 0, 1, 0, 0), (1476, .ireturn, 1, 0, 0), (1477, .iload 5, 2, 0, 0), (1479, .ifCond .ne 22, 3, 0, 0), (1482, .aload_n 3, 1, 0, 0), (1483, .iconst 0, 1, 0, 0), (1484, .laload, 1, 0, 0), (1485, .iload 6, 2, 0, 0), (1487, .ifCond .eq 7, 3, 0, 0), (1490, .lconst 1, 1, 0, 0), (1491, .goto 4, 3, 0, 0), (1494, .lconst 0, 1, 0, 0), (1495, .lcmp, 1, 0, 0), (1496, .ifCond .eq 5, 3, 0, 0), (1499, .iconst 0, 1, 0, 0), (1500, .ireturn, 1, 0, 0), (1501, .goto 881, 3, 0, 0), (1504, .aload_n 1, 1, 0, 0), (1505, .invokevirtual 201, 3, 0, 155), (1508, .aload_n 2, 1, 0, 0), (1509, .invokevirtual 204, 3, 0, 306), (1512, .if_icmp .eq 870, 3, 0, 0), (1515, .iconst 0, 1, 0, 0), (1516, .ireturn, 1, 0, 0), (1517, .aload_n 1, 1, 0, 0), (1518, .invokevirtual 205, 3, 0, 156), (1521, .aload_n 2, 1, 0, 0), (1522, .invokevirtual 208, 3, 0, 309), (1525, .if_icmp .eq 857, 3, 0, 0), (1528, .iconst 0, 1, 0, 0), (1529, .ireturn, 1, 0, 0), (1530, .aload_n 1, 1, 0, 0), (1531, .invokevirtual 209, 3, 0, 157), (1534, .aload_n 2, 1, 0, 0), (1535, .invokevirtual 212, 3, 0, 311), (1538, .if_icmp .eq 844, 3, 0, 0), (1541, .iconst 0, 1, 0, 0), (1542, .ireturn, 1, 0, 0), (1543, .aload_n 1, 1, 0, 0), (1544, .aload_n 3, 1, 0, 0), (1545, .invokestatic 213, 3, 0, 363), (1548, .istore 5, 2, 0, 0), (1550, .aload_n 2, 1, 0, 0), (1551, .invokevirtual 215, 3, 0, 316), (1554, .istore 6, 2, 0, 0), (1556, .aload_n 2, 1, 0, 0), (1557, .invokevirtual 130, 3, 0, 187), (1560, .iload 5, 2, 0, 0), (1562, .if_icmp .eq 5, 3, 0, 0), (1565, .iconst 0, 1, 0, 0), (1566, .ireturn, 1, 0, 0), (1567, .iload 5, 2, 0, 0), (1569, .ifCond .ne 15, 3, 0, 0), (1572, .aload_n 3, 1, 0, 0), (1573, .iconst 0, 1, 0, 0), (1574, .laload, 1, 0, 0), (1575, .iload 6, 2, 0, 0), (1577, .i2l, 1, 0, 0), (1578, .lcmp, 1, 0, 0), (1579, .ifCond .eq 5, 3, 0, 0), (1582, .iconst 0, 1, 0, 0), (1583, .ireturn, 1, 0, 0), (1584, .goto 798, 3, 0, 0), (1587, .aload_n 1, 1, 0, 0), (1588, .aload_n 3, 1, 0, 0), (1589, .invokestatic 216, 3, 0, 364), (1592, .istore 5, 2, 0, 0), (1594, .aload_n 2, 1, 0, 0), (1595, .invokevirtual 218, 3, 0, 317), (1598, .istore 6, 2, 0, 0), (1600, .aload_n 2, 1, 0, 0), (1601, .invokevirtual 130, 3, 0, 187), (1604, .iload 5, 2, 0, 0), (1606, .if_icmp .eq 5, 3, 0, 0), (1609, .iconst 0, 1, 0, 0), (1610, .ireturn, 1, 0, 0), (1611, .iload 5, 2, 0, 0), (1613, .ifCond .ne 15, 3, 0, 0), (1616, .aload_n 3, 1, 0, 0), (1617, .iconst 0, 1, 0, 0), (1618, .laload, 1, 0, 0), (1619, .iload 6, 2, 0, 0), (1621, .i2l, 1, 0, 0), (1622, .lcmp, 1, 0, 0), (1623, .ifCond .eq 5, 3, 0, 0), (1626, .iconst 0, 1, 0, 0), (1627, .ireturn, 1, 0, 0), (1628, .goto 754, 3, 0, 0), (1631, .aload_n 1, 1, 0, 0), (1632, .aload_n 3, 1, 0, 0), (1633, .invokestatic 219, 3, 0, 365), (1636, .istore 5, 2, 0, 0), (1638, .aload_n 2, 1, 0, 0), (1639, .invokevirtual 221, 3, 0, 318), (1642, .istore 6, 2, 0, 0), (1644, .aload_n 2, 1, 0, 0), (1645, .invokevirtual 130, 3, 0, 187), (1648, .iload 5, 2, 0, 0), (1650, .if_icmp .eq 5, 3, 0, 0), (1653, .iconst 0, 1, 0, 0), (1654, .ireturn, 1, 0, 0), (1655, .iload 5, 2, 0, 0), (1657, .ifCond .ne 15, 3, 0, 0), (1660, .aload_n 3, 1, 0, 0), (1661, .iconst 0, 1, 0, 0), (1662, .laload, 1, 0, 0), (1663, .iload 6, 2, 0, 0), (1665, .i2l, 1, 0, 0), (1666, .lcmp, 1, 0, 0), (1667, .ifCond .eq 5, 3, 0, 0), (1670, .iconst 0, 1, 0, 0), (1671, .ireturn, 1, 0, 0), (1672, .goto 710, 3, 0, 0), (1675, .aload_n 1, 1, 0, 0), (1676, .aload_n 0, 1, 0, 0), (1677, .iload 4, 2, 0, 0), (1679, .iconst 1, 1, 0, 0), (1680, .iadd, 1, 0, 0), (1681, .iaload, 1, 0, 0), (1682, .aload_n 3, 1, 0, 0), (1683, .invokestatic 222, 3, 0, 366), (1686, .istore 5, 2, 0, 0), (1688, .aload_n 2, 1, 0, 0), (1689, .aload_n 0, 1, 0, 0), (1690, .iload 4, 2, 0, 0), (1692, .iconst 1, 1, 0, 0), (1693, .iadd, 1, 0, 0), (1694, .iaload, 1, 0, 0), (1695, .invokevirtual 224, 3, 0, 321), (1698, .istore 6, 2, 0, 0), (1700, .aload_n 2, 1, 0, 0), (1701, .invokevirtual 130, 3, 0, 187), (1704, .iload 5, 2, 0, 0), (1706, .if_icmp .eq 5, 3, 0, 0), (1709, .iconst 0, 1, 0, 0), (1710, .ireturn, 1, 0, 0), (1711, .iload 5, 2, 0, 0), (1713, .ifCond .ne 15, 3, 0, 0), (1716, .aload_n 3, 1, 0, 0), (1717, .iconst 0, 1, 0, 0), (1718, .laload, 1, 0, 0), (1719, .iload 6, 2, 0, 0), (1721, .i2l, 1, 0, 0), (1722, .lcmp, 1, 0, 0), (1723, .ifCond .eq 5, 3, 0, 0), (1726, .iconst 0, 1, 0, 0), (1727, .ireturn, 1, 0, 0), (1728, .goto 654, 3, 0, 0), (1731, .aload_n 1, 1, 0, 0), (1732, .aload_n 0, 1, 0, 0), (1733, .iload 4, 2, 0, 0), (1735, .iconst 1, 1, 0, 0), (1736, .iadd, 1, 0, 0), (1737, .iaload, 1, 0, 0), (1738, .aload_n 0, 1, 0, 0), (1739, .iload 4, 2, 0, 0), (1741, .iconst 2, 1, 0, 0), (1742, .iadd, 1, 0, 0), (1743, .iaload, 1, 0, 0), (1744, .aload_n 3, 1, 0, 0), (1745, .invokestatic 225, 3, 0, 367), (1748, .istore 5, 2, 0, 0), (1750, .aload_n 2, 1, 0, 0), (1751, .aload_n 0, 1, 0, 0), (1752, .iload 4, 2, 0, 0), (1754, .iconst 1, 1, 0, 0), (1755, .iadd, 1, 0, 0), (1756, .iaload, 1, 0, 0), (1757, .aload_n 0, 1, 0, 0), (1758, .iload 4, 2, 0, 0), (1760, .iconst 2, 1, 0, 0), (1761, .iadd, 1, 0, 0), (1762, .iaload, 1, 0, 0), (1763, .invokevirtual 227, 3, 0, 323), (1766, .istore 6, 2, 0, 0), (1768, .aload_n 2, 1, 0, 0), (1769, .invokevirtual 130, 3, 0, 187), (1772, .iload 5, 2, 0, 0), (1774, .if_icmp .eq 5, 3, 0, 0), (1777, .iconst 0, 1, 0, 0), (1778, .ireturn, 1, 0, 0), (1779, .iload 5, 2, 0, 0), (1781, .ifCond .ne 15, 3, 0, 0), (1784, .aload_n 3, 1, 0, 0), (1785, .iconst 0, 1, 0, 0), (1786, .laload, 1, 0, 0), (1787, .iload 6, 2, 0, 0), (1789, .i2l, 1, 0, 0), (1790, .lcmp, 1, 0, 0), (1791, .ifCond .eq 5, 3, 0, 0), (1794, .iconst 0, 1, 0, 0), (1795, .ireturn, 1, 0, 0), (1796, .goto 586, 3, 0, 0), (1799, .aload_n 1, 1, 0, 0), (1800, .aload_n 0, 1, 0, 0), (1801, .iload 4, 2, 0, 0), (1803, .iconst 1, 1, 0, 0), (1804, .iadd, 1, 0, 0), (1805, .iaload, 1, 0, 0), (1806, .aload_n 0, 1, 0, 0), (1807, .iload 4, 2, 0, 0), (1809, .iconst 2, 1, 0, 0), (1810, .iadd, 1, 0, 0), (1811, .iaload, 1, 0, 0), (1812, .aload_n 3, 1, 0, 0), (1813, .invokestatic 228, 3, 0, 368), (1816, .istore 5, 2, 0, 0), (1818, .aload_n 2, 1, 0, 0), (1819, .aload_n 0, 1, 0, 0), (1820, .iload 4, 2, 0, 0), (1822, .iconst 1, 1, 0, 0), (1823, .iadd, 1, 0, 0), (1824, .iaload, 1, 0, 0), (1825, .aload_n 0, 1, 0, 0), (1826, .iload 4, 2, 0, 0), (1828, .iconst 2, 1, 0, 0), (1829, .iadd, 1, 0, 0), (1830, .iaload, 1, 0, 0), (1831, .invokevirtual 230, 3, 0, 324), (1834, .istore 6, 2, 0, 0), (1836, .aload_n 2, 1, 0, 0), (1837, .invokevirtual 130, 3, 0, 187), (1840, .iload 5, 2, 0, 0), (1842, .if_icmp .eq 5, 3, 0, 0), (1845, .iconst 0, 1, 0, 0), (1846, .ireturn, 1, 0, 0), (1847, .iload 5, 2, 0, 0), (1849, .ifCond .ne 15, 3, 0, 0), (1852, .aload_n 3, 1, 0, 0), (1853, .iconst 0, 1, 0, 0), (1854, .laload, 1, 0, 0), (1855, .iload 6, 2, 0, 0), (1857, .i2l, 1, 0, 0), (1858, .lcmp, 1, 0, 0), (1859, .ifCond .eq 5, 3, 0, 0), (1862, .iconst 0, 1, 0, 0), (1863, .ireturn, 1, 0, 0), (1864, .goto 518, 3, 0, 0), (1867, .aload_n 1, 1, 0, 0), (1868, .aload_n 0, 1, 0, 0), (1869, .iload 4, 2, 0, 0), (1871, .iconst 1, 1, 0, 0), (1872, .iadd, 1, 0, 0), (1873, .iaload, 1, 0, 0), (1874, .aload_n 3, 1, 0, 0), (1875, .invokestatic 231, 3, 0, 369), (1878, .istore 5, 2, 0, 0), (1880, .aload_n 2, 1, 0, 0), (1881, .aload_n 0, 1, 0, 0), (1882, .iload 4, 2, 0, 0), (1884, .iconst 1, 1, 0, 0), (1885, .iadd, 1, 0, 0), (1886, .iaload, 1, 0, 0), (1887, .invokevirtual 233, 3, 0, 326), (1890, .istore 6, 2, 0, 0), (1892, .aload_n 2, 1, 0, 0), (1893, .invokevirtual 130, 3, 0, 187), (1896, .iload 5, 2, 0, 0), (1898, .if_icmp .eq 5, 3, 0, 0), (1901, .iconst 0, 1, 0, 0), (1902, .ireturn, 1, 0, 0), (1903, .iload 5, 2, 0, 0), (1905, .ifCond .ne 15, 3, 0, 0), (1908, .aload_n 3, 1, 0, 0), (1909, .iconst 0, 1, 0, 0), (1910, .laload, 1, 0, 0), (1911, .iload 6, 2, 0, 0), (1913, .i2l, 1, 0, 0), (1914, .lcmp, 1, 0, 0), (1915, .ifCond .eq 5, 3, 0, 0), (1918, .iconst 0, 1, 0, 0), (1919, .ireturn, 1, 0, 0), (1920, .goto 462, 3, 0, 0), (1923, .aload_n 1, 1, 0, 0), (1924, .invokevirtual 234, 3, 0, 169), (1927, .aload_n 2, 1, 0, 0), (1928, .invokevirtual 237, 3, 0, 327), (1931, .if_icmp .eq 451, 3, 0, 0), (1934, .iconst 0, 1, 0, 0), (1935, .ireturn, 1, 0, 0), (1936, .aload_n 1, 1, 0, 0), (1937, .invokevirtual 238, 3, 0, 170), (1940, .aload_n 2, 1, 0, 0), (1941, .invokevirtual 241, 3, 0, 328), (1944, .if_icmp .eq 438, 3, 0, 0), (1947, .iconst 0, 1, 0, 0), (1948, .ireturn, 1, 0, 0), (1949, .aload_n 1, 1, 0, 0), (1950, .invokevirtual 242, 3, 0, 162), (1953, .aload_n 2, 1, 0, 0), (1954, .invokevirtual 245, 3, 0, 330), (1957, .if_icmp .eq 425, 3, 0, 0), (1960, .iconst 0, 1, 0, 0), (1961, .ireturn, 1, 0, 0), (1962, .aload_n 1, 1, 0, 0), (1963, .invokevirtual 246, 3, 0, 163), (1966, .aload_n 2, 1, 0, 0), (1967, .invokevirtual 249, 3, 0, 331), (1970, .if_icmp .eq 412, 3, 0, 0), (1973, .iconst 0, 1, 0, 0), (1974, .ireturn, 1, 0, 0), (1975, .aload_n 1, 1, 0, 0), (1976, .aload_n 0, 1, 0, 0), (1977, .iload 4, 2, 0, 0), (1979, .iconst 1, 1, 0, 0), (1980, .iadd, 1, 0, 0), (1981, .iaload, 1, 0, 0), (1982, .aload_n 0, 1, 0, 0), (1983, .iload 4, 2, 0, 0), (1985, .iconst 2, 1, 0, 0), (1986, .iadd, 1, 0, 0), (1987, .iaload, 1, 0, 0), (1988, .ifCond .eq 7, 3, 0, 0), (1991, .iconst 1, 1, 0, 0), (1992, .goto 4, 3, 0, 0), (1995, .iconst 0, 1, 0, 0), (1996, .aload_n 3, 1, 0, 0), (1997, .invokestatic 250, 3, 0, 370), (2000, .istore 5, 2, 0, 0), (2002, .aload_n 2, 1, 0, 0), (2003, .aload_n 0, 1, 0, 0), (2004, .iload 4, 2, 0, 0), (2006, .iconst 1, 1, 0, 0), (2007, .iadd, 1, 0, 0), (2008, .iaload, 1, 0, 0), (2009, .aload_n 0, 1, 0, 0), (2010, .iload 4, 2, 0, 0), (2012, .iconst 2, 1, 0, 0), (2013, .iadd, 1, 0, 0), (2014, .iaload, 1, 0, 0), (2015, .ifCond .eq 7, 3, 0, 0), (2018, .iconst 1, 1, 0, 0), (2019, .goto 4, 3, 0, 0), (2022, .iconst 0, 1, 0, 0), (2023, .invokevirtual 253, 3, 0, 333), (2026, .istore 6, 2, 0, 0), (2028, .aload_n 2, 1, 0, 0), (2029, .invokevirtual 130, 3, 0, 187), (2032, .iload 5, 2, 0, 0), (2034, .if_icmp .eq 5, 3, 0, 0), (2037, .iconst 0, 1, 0, 0), (2038, .ireturn, 1, 0, 0), (2039, .iload 5, 2, 0, 0), (2041, .ifCond .ne 15, 3, 0, 0), (2044, .aload_n 3, 1, 0, 0), (2045, .iconst 0, 1, 0, 0), (2046, .laload, 1, 0, 0), (2047, .iload 6, 2, 0, 0), (2049, .i2l, 1, 0, 0), (2050, .lcmp, 1, 0, 0), (2051, .ifCond .eq 5, 3, 0, 0), (2054, .iconst 0, 1, 0, 0), (2055, .ireturn, 1, 0, 0), (2056, .goto 326, 3, 0, 0), (2059, .aload_n 1, 1, 0, 0), (2060, .aload_n 0, 1, 0, 0), (2061, .iload 4, 2, 0, 0), (2063, .iconst 1, 1, 0, 0), (2064, .iadd, 1, 0, 0), (2065, .iaload, 1, 0, 0), (2066, .aload_n 0, 1, 0, 0), (2067, .iload 4, 2, 0, 0), (2069, .iconst 2, 1, 0, 0), (2070, .iadd, 1, 0, 0), (2071, .iaload, 1, 0, 0), (2072, .ifCond .eq 7, 3, 0, 0), (2075, .iconst 1, 1, 0, 0), (2076, .goto 4, 3, 0, 0), (2079, .iconst 0, 1, 0, 0), (2080, .aload_n 3, 1, 0, 0), (2081, .invokestatic 254, 3, 0, 371), (2084, .istore 5, 2, 0, 0), (2086, .aload_n 2, 1, 0, 0), (2087, .aload_n 0, 1, 0, 0), (2088, .iload 4, 2, 0, 0), (2090, .iconst 1, 1, 0, 0), (2091, .iadd, 1, 0, 0), (2092, .iaload, 1, 0, 0), (2093, .aload_n 0, 1, 0, 0), (2094, .iload 4, 2, 0, 0), (2096, .iconst 2, 1, 0, 0), (2097, .iadd, 1, 0, 0), (2098, .iaload, 1, 0, 0), (2099, .ifCond .eq 7, 3, 0, 0), (2102, .iconst 1, 1, 0, 0), (2103, .goto 4, 3, 0, 0), (2106, .iconst 0, 1, 0, 0), (2107, .invokevirtual 256, 3, 0, 334), (2110, .istore 6, 2, 0, 0), (2112, .aload_n 2, 1, 0, 0), (2113, .invokevirtual 130, 3, 0, 187), (2116, .iload 5, 2, 0, 0), (2118, .if_icmp .eq 5, 3, 0, 0), (2121, .iconst 0, 1, 0, 0), (2122, .ireturn, 1, 0, 0), (2123, .iload 5, 2, 0, 0), (2125, .ifCond .ne 15, 3, 0, 0), (2128, .aload_n 3, 1, 0, 0), (2129, .iconst 0, 1, 0, 0), (2130, .laload, 1, 0, 0), (2131, .iload 6, 2, 0, 0), (2133, .i2l, 1, 0, 0), (2134, .lcmp, 1, 0, 0), (2135, .ifCond .eq 5, 3, 0, 0), (2138, .iconst 0, 1, 0, 0), (2139, .ireturn, 1, 0, 0), (2140, .goto 242, 3, 0, 0), (2143, .aload_n 1, 1, 0, 0), (2144, .aload_n 0, 1, 0, 0), (2145, .iload 4, 2, 0, 0), (2147, .iconst 1, 1, 0, 0), (2148, .iadd, 1, 0, 0), (2149, .iaload, 1, 0, 0), (2150, .aload_n 0, 1, 0, 0), (2151, .iload 4, 2, 0, 0), (2153, .iconst 2, 1, 0, 0), (2154, .iadd, 1, 0, 0), (2155, .iaload, 1, 0, 0), (2156, .ifCond .eq 7, 3, 0, 0), (2159, .iconst 1, 1, 0, 0), (2160, .goto 4, 3, 0, 0), (2163, .iconst 0, 1, 0, 0), (2164, .aload_n 3, 1, 0, 0), (2165, .invokestatic 257, 3, 0, 372), (2168, .istore 5, 2, 0, 0), (2170, .aload_n 2, 1, 0, 0), (2171, .aload_n 0, 1, 0, 0), (2172, .iload 4, 2, 0, 0), (2174, .iconst 1, 1, 0, 0), (2175, .iadd, 1, 0, 0), (2176, .iaload, 1, 0, 0), (2177, .aload_n 0, 1, 0, 0), (2178, .iload 4, 2, 0, 0), (2180, .iconst 2, 1, 0, 0), (2181, .iadd, 1, 0, 0), (2182, .iaload, 1, 0, 0), (2183, .ifCond .eq 7, 3, 0, 0), (2186, .iconst 1, 1, 0, 0), (2187, .goto 4, 3, 0, 0), (2190, .iconst 0, 1, 0, 0), (2191, .invokevirtual 259, 3, 0, 336), (2194, .istore 6, 2, 0, 0), (2196, .aload_n 2, 1, 0, 0), (2197, .invokevirtual 130, 3, 0, 187), (2200, .iload 5, 2, 0, 0), (2202, .if_icmp .eq 5, 3, 0, 0), (2205, .iconst 0, 1, 0, 0), (2206, .ireturn, 1, 0, 0), (2207, .iload 5, 2, 0, 0), (2209, .ifCond .ne 15, 3, 0, 0), (2212, .aload_n 3, 1, 0, 0), (2213, .iconst 0, 1, 0, 0), (2214, .laload, 1, 0, 0), (2215, .iload 6, 2, 0, 0), (2217, .i2l, 1, 0, 0), (2218, .lcmp, 1, 0, 0), (2219, .ifCond .eq 5, 3, 0, 0), (2222, .iconst 0, 1, 0, 0), (2223, .ireturn, 1, 0, 0), (2224, .goto 158, 3, 0, 0), (2227, .aload_n 1, 1, 0, 0), (2228, .aload_n 0, 1, 0, 0), (2229, .iload 4, 2, 0, 0), (2231, .iconst 1, 1, 0, 0), (2232, .iadd, 1, 0, 0), (2233, .iaload, 1, 0, 0), (2234, .aload_n 0, 1, 0, 0), (2235, .iload 4, 2, 0, 0), (2237, .iconst 2, 1, 0, 0), (2238, .iadd, 1, 0, 0), (2239, .iaload, 1, 0, 0), (2240, .aload_n 3, 1, 0, 0), (2241, .invokestatic 260, 3, 0, 373), (2244, .istore 5, 2, 0, 0), (2246, .aload_n 2, 1, 0, 0), (2247, .aload_n 0, 1, 0, 0), (2248, .iload 4, 2, 0, 0), (2250, .iconst 1, 1, 0, 0), (2251, .iadd, 1, 0, 0), (2252, .iaload, 1, 0, 0), (2253, .aload_n 0, 1, 0, 0), (2254, .iload 4, 2, 0, 0), (2256, .iconst 2, 1, 0, 0), (2257, .iadd, 1, 0, 0), (2258, .iaload, 1, 0, 0), (2259, .invokevirtual 262, 3, 0, 337), (2262, .istore 6, 2, 0, 0), (2264, .aload_n 2, 1, 0, 0), (2265, .invokevirtual 130, 3, 0, 187), (2268, .iload 5, 2, 0, 0), (2270, .if_icmp .eq 5, 3, 0, 0), (2273, .iconst 0, 1, 0, 0), (2274, .ireturn, 1, 0, 0), (2275, .iload 5, 2, 0, 0), (2277, .ifCond .ne 15, 3, 0, 0), (2280, .aload_n 3, 1, 0, 0), (2281, .iconst 0, 1, 0, 0), (2282, .laload, 1, 0, 0), (2283, .iload 6, 2, 0, 0), (2285, .i2l, 1, 0, 0), (2286, .lcmp, 1, 0, 0), (2287, .ifCond .eq 5, 3, 0, 0), (2290, .iconst 0, 1, 0, 0), (2291, .ireturn, 1, 0, 0), (2292, .goto 90, 3, 0, 0), (2295, .aload_n 1, 1, 0, 0), (2296, .aload_n 0, 1, 0, 0), (2297, .iload 4, 2, 0, 0), (2299, .iconst 1, 1, 0, 0), (2300, .iadd, 1, 0, 0), (2301, .iaload, 1, 0, 0), (2302, .invokevirtual 263, 3, 0, 145), (2305, .aload_n 2, 1, 0, 0), (2306, .aload_n 0, 1, 0, 0), (2307, .iload 4, 2, 0, 0), (2309, .iconst 1, 1, 0, 0), (2310, .iadd, 1, 0, 0), (2311, .iaload, 1, 0, 0), (2312, .invokevirtual 266, 3, 0, 338), (2315, .if_icmp .eq 67, 3, 0, 0), (2318, .iconst 0, 1, 0, 0), (2319, .ireturn, 1, 0, 0), (2320, .aload_n 1, 1, 0, 0), (2321, .invokevirtual 267, 3, 0, 174), (2324, .aload_n 2, 1, 0, 0), (2325, .invokevirtual 271, 3, 0, 195), (2328, .if_icmp .eq 54, 3, 0, 0), (2331, .iconst 0, 1, 0, 0), (2332, .ireturn, 1, 0, 0), (2333, .aload_n 1, 1, 0, 0), (2334, .invokevirtual 272, 3, 0, 175), (2337, .aload_n 2, 1, 0, 0), (2338, .invokevirtual 275, 3, 0, 192), (2341, .goto 41, 3, 0, 0), (2344, .aload_n 1, 1, 0, 0), (2345, .invokevirtual 276, 3, 0, 176), (2348, .aload_n 2, 1, 0, 0), (2349, .invokevirtual 279, 3, 0, 193), (2352, .if_icmp .eq 30, 3, 0, 0), (2355, .iconst 0, 1, 0, 0), (2356, .ireturn, 1, 0, 0), (2357, .aload_n 1, 1, 0, 0), (2358, .aload_n 0, 1, 0, 0), (2359, .iload 4, 2, 0, 0), (2361, .iconst 1, 1, 0, 0), (2362, .iadd, 1, 0, 0), (2363, .iaload, 1, 0, 0), (2364, .invokevirtual 280, 3, 0, 173), (2367, .aload_n 2, 1, 0, 0), (2368, .aload_n 0, 1, 0, 0), (2369, .iload 4, 2, 0, 0), (2371, .iconst 1, 1, 0, 0), (2372, .iadd, 1, 0, 0), (2373, .iaload, 1, 0, 0), (2374, .invokevirtual 283, 3, 0, 341), (2377, .if_icmp .eq 5, 3, 0, 0), (2380, .iconst 0, 1, 0, 0), (2381, .ireturn, 1, 0, 0), (2382, .iinc 4 6, 3, 0, 0), (2385, .goto (-2362), 3, 0, 0), (2388, .iconst 1, 1, 0, 0), (2389, .ireturn, 1, 0, 0)]
/-- SerialGateLaw.law([I)Z -/
def mm_M374 : mm_M := (yL_law_, cL_law_, 7, (some .boolean), 12, false, [], [], mm_k374)
theorem mm_d374 : mm_k374.all (fun q => mm_deq (decode cL_law_ q.1) q.2.1 q.2.2.1) = true := by decide +kernel
end

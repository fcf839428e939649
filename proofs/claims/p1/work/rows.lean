section
/-- a private method of a class that the tables say can be made, by its rows of tables_1 -/
def lw_okq (q : MethodName × Nat) : Prop := (q.1.cls ≠ "java/lang/invoke/MethodHandle" ∧ q.1.cls ≠ "java/lang/invoke/VarHandle") ∧ Cond.instantiable q.1.cls q.2 ∈ tables_1 ∧ Cond.privateMethod q.1 ∈ tables_1 ∧ Cond.instanceMethod q.1 ∈ tables_1
theorem lw_p0 : lw_okq (⟨"LikenessPound$Tape", "readRun", "()V"⟩, 12) := ⟨⟨by decide +kernel, by decide +kernel⟩, List.mem_of_getElem? (i := 38) (by decide +kernel), List.mem_of_getElem? (i := 566) (by decide +kernel), List.mem_of_getElem? (i := 567) (by decide +kernel)⟩
theorem lw_p1 : lw_okq (⟨"LikenessPound$Tape", "findWord", "()I"⟩, 12) := ⟨⟨by decide +kernel, by decide +kernel⟩, List.mem_of_getElem? (i := 38) (by decide +kernel), List.mem_of_getElem? (i := 570) (by decide +kernel), List.mem_of_getElem? (i := 571) (by decide +kernel)⟩
theorem lw_p2 : lw_okq (⟨"LikenessPound$ColonyText", "readLine", "(LLikenessPound$Tape;LLikenessPound$Colony;LLikenessPound$Life;)Z"⟩, 5) := ⟨⟨by decide +kernel, by decide +kernel⟩, List.mem_of_getElem? (i := 147) (by decide +kernel), List.mem_of_getElem? (i := 577) (by decide +kernel), List.mem_of_getElem? (i := 578) (by decide +kernel)⟩
theorem lw_p3 : lw_okq (⟨"LikenessPound$ColonyText", "readKin", "(LLikenessPound$Tape;LLikenessPound$Colony;)Z"⟩, 5) := ⟨⟨by decide +kernel, by decide +kernel⟩, List.mem_of_getElem? (i := 147) (by decide +kernel), List.mem_of_getElem? (i := 630) (by decide +kernel), List.mem_of_getElem? (i := 631) (by decide +kernel)⟩
theorem lw_p4 : lw_okq (⟨"LikenessPound$ColonyText", "readUnlikeMen", "(LLikenessPound$Tape;LLikenessPound$Colony;)Z"⟩, 5) := ⟨⟨by decide +kernel, by decide +kernel⟩, List.mem_of_getElem? (i := 147) (by decide +kernel), List.mem_of_getElem? (i := 634) (by decide +kernel), List.mem_of_getElem? (i := 635) (by decide +kernel)⟩
theorem lw_p5 : lw_okq (⟨"LikenessPound$ColonyText", "readOwes", "(LLikenessPound$Tape;LLikenessPound$Colony;LLikenessPound$Life;)Z"⟩, 5) := ⟨⟨by decide +kernel, by decide +kernel⟩, List.mem_of_getElem? (i := 147) (by decide +kernel), List.mem_of_getElem? (i := 642) (by decide +kernel), List.mem_of_getElem? (i := 643) (by decide +kernel)⟩
theorem lw_p6 : lw_okq (⟨"LikenessPound$ColonyText", "readRoom", "(LLikenessPound$Tape;LLikenessPound$Colony;)Z"⟩, 5) := ⟨⟨by decide +kernel, by decide +kernel⟩, List.mem_of_getElem? (i := 147) (by decide +kernel), List.mem_of_getElem? (i := 646) (by decide +kernel), List.mem_of_getElem? (i := 647) (by decide +kernel)⟩
theorem lw_p7 : lw_okq (⟨"LikenessPound$ColonyText", "readFaint", "(LLikenessPound$Tape;LLikenessPound$Colony;)Z"⟩, 5) := ⟨⟨by decide +kernel, by decide +kernel⟩, List.mem_of_getElem? (i := 147) (by decide +kernel), List.mem_of_getElem? (i := 650) (by decide +kernel), List.mem_of_getElem? (i := 651) (by decide +kernel)⟩
theorem lw_p8 : lw_okq (⟨"LikenessPound", "isMan", "(I)Z"⟩, 17) := ⟨⟨by decide +kernel, by decide +kernel⟩, List.mem_of_getElem? (i := 30) (by decide +kernel), List.mem_of_getElem? (i := 674) (by decide +kernel), List.mem_of_getElem? (i := 675) (by decide +kernel)⟩
theorem lw_p9 : lw_okq (⟨"LikenessPound", "isDeed", "(I)Z"⟩, 17) := ⟨⟨by decide +kernel, by decide +kernel⟩, List.mem_of_getElem? (i := 30) (by decide +kernel), List.mem_of_getElem? (i := 678) (by decide +kernel), List.mem_of_getElem? (i := 679) (by decide +kernel)⟩
theorem lw_p10 : lw_okq (⟨"LikenessPound$World", "sideOf", "(IZ)I"⟩, 3) := ⟨⟨by decide +kernel, by decide +kernel⟩, List.mem_of_getElem? (i := 362) (by decide +kernel), List.mem_of_getElem? (i := 706) (by decide +kernel), List.mem_of_getElem? (i := 707) (by decide +kernel)⟩
theorem lw_p11 : lw_okq (⟨"LikenessPound", "undoableIfDone", "(I)I"⟩, 17) := ⟨⟨by decide +kernel, by decide +kernel⟩, List.mem_of_getElem? (i := 30) (by decide +kernel), List.mem_of_getElem? (i := 775) (by decide +kernel), List.mem_of_getElem? (i := 776) (by decide +kernel)⟩
theorem lw_p12 : lw_okq (⟨"LikenessPound", "undoableIfAny", "(I)I"⟩, 17) := ⟨⟨by decide +kernel, by decide +kernel⟩, List.mem_of_getElem? (i := 30) (by decide +kernel), List.mem_of_getElem? (i := 839) (by decide +kernel), List.mem_of_getElem? (i := 840) (by decide +kernel)⟩
theorem lw_p13 : lw_okq (⟨"LikenessPound$Lenders", "loanOf", "(I)I"⟩, 1) := ⟨⟨by decide +kernel, by decide +kernel⟩, List.mem_of_getElem? (i := 304) (by decide +kernel), List.mem_of_getElem? (i := 891) (by decide +kernel), List.mem_of_getElem? (i := 892) (by decide +kernel)⟩
theorem lw_p14 : lw_okq (⟨"LikenessPound", "countSide", "(IZ)J"⟩, 17) := ⟨⟨by decide +kernel, by decide +kernel⟩, List.mem_of_getElem? (i := 30) (by decide +kernel), List.mem_of_getElem? (i := 905) (by decide +kernel), List.mem_of_getElem? (i := 906) (by decide +kernel)⟩
theorem lw_p15 : lw_okq (⟨"LikenessPound", "allowOnlySide", "(Z)V"⟩, 17) := ⟨⟨by decide +kernel, by decide +kernel⟩, List.mem_of_getElem? (i := 30) (by decide +kernel), List.mem_of_getElem? (i := 909) (by decide +kernel), List.mem_of_getElem? (i := 910) (by decide +kernel)⟩
def lw_privs_1 : List (MethodName × Nat) := [(⟨"LikenessPound$Tape", "readRun", "()V"⟩, 12), (⟨"LikenessPound$Tape", "findWord", "()I"⟩, 12), (⟨"LikenessPound$ColonyText", "readLine", "(LLikenessPound$Tape;LLikenessPound$Colony;LLikenessPound$Life;)Z"⟩, 5), (⟨"LikenessPound$ColonyText", "readKin", "(LLikenessPound$Tape;LLikenessPound$Colony;)Z"⟩, 5), (⟨"LikenessPound$ColonyText", "readUnlikeMen", "(LLikenessPound$Tape;LLikenessPound$Colony;)Z"⟩, 5), (⟨"LikenessPound$ColonyText", "readOwes", "(LLikenessPound$Tape;LLikenessPound$Colony;LLikenessPound$Life;)Z"⟩, 5), (⟨"LikenessPound$ColonyText", "readRoom", "(LLikenessPound$Tape;LLikenessPound$Colony;)Z"⟩, 5), (⟨"LikenessPound$ColonyText", "readFaint", "(LLikenessPound$Tape;LLikenessPound$Colony;)Z"⟩, 5), (⟨"LikenessPound", "isMan", "(I)Z"⟩, 17), (⟨"LikenessPound", "isDeed", "(I)Z"⟩, 17), (⟨"LikenessPound$World", "sideOf", "(IZ)I"⟩, 3), (⟨"LikenessPound", "undoableIfDone", "(I)I"⟩, 17), (⟨"LikenessPound", "undoableIfAny", "(I)I"⟩, 17), (⟨"LikenessPound$Lenders", "loanOf", "(I)I"⟩, 1), (⟨"LikenessPound", "countSide", "(IZ)J"⟩, 17), (⟨"LikenessPound", "allowOnlySide", "(Z)V"⟩, 17)]
theorem lw_r1 : ∀ q ∈ lw_privs_1, lw_okq q := List.forall_mem_cons.mpr ⟨lw_p0, List.forall_mem_cons.mpr ⟨lw_p1, List.forall_mem_cons.mpr ⟨lw_p2, List.forall_mem_cons.mpr ⟨lw_p3, List.forall_mem_cons.mpr ⟨lw_p4, List.forall_mem_cons.mpr ⟨lw_p5, List.forall_mem_cons.mpr ⟨lw_p6, List.forall_mem_cons.mpr ⟨lw_p7, List.forall_mem_cons.mpr ⟨lw_p8, List.forall_mem_cons.mpr ⟨lw_p9, List.forall_mem_cons.mpr ⟨lw_p10, List.forall_mem_cons.mpr ⟨lw_p11, List.forall_mem_cons.mpr ⟨lw_p12, List.forall_mem_cons.mpr ⟨lw_p13, List.forall_mem_cons.mpr ⟨lw_p14, List.forall_mem_cons.mpr ⟨lw_p15, fun _ h => absurd h List.not_mem_nil⟩⟩⟩⟩⟩⟩⟩⟩⟩⟩⟩⟩⟩⟩⟩⟩
theorem lw_p16 : lw_okq (⟨"LikenessPound$Sums", "addWays", "(III)V"⟩, 3) := ⟨⟨by decide +kernel, by decide +kernel⟩, List.mem_of_getElem? (i := 314) (by decide +kernel), List.mem_of_getElem? (i := 917) (by decide +kernel), List.mem_of_getElem? (i := 918) (by decide +kernel)⟩
theorem lw_p17 : lw_okq (⟨"LikenessPound", "pickSide", "(IZ)V"⟩, 17) := ⟨⟨by decide +kernel, by decide +kernel⟩, List.mem_of_getElem? (i := 30) (by decide +kernel), List.mem_of_getElem? (i := 925) (by decide +kernel), List.mem_of_getElem? (i := 926) (by decide +kernel)⟩
theorem lw_p18 : lw_okq (⟨"LikenessPound$Sums", "fewestFrom", "(III)I"⟩, 3) := ⟨⟨by decide +kernel, by decide +kernel⟩, List.mem_of_getElem? (i := 314) (by decide +kernel), List.mem_of_getElem? (i := 933) (by decide +kernel), List.mem_of_getElem? (i := 934) (by decide +kernel)⟩
theorem lw_p19 : lw_okq (⟨"LikenessPound$Sums", "firstTimes", "(III)I"⟩, 3) := ⟨⟨by decide +kernel, by decide +kernel⟩, List.mem_of_getElem? (i := 314) (by decide +kernel), List.mem_of_getElem? (i := 941) (by decide +kernel), List.mem_of_getElem? (i := 942) (by decide +kernel)⟩
theorem lw_p20 : lw_okq (⟨"LikenessPound", "fewestGood", "(II)I"⟩, 17) := ⟨⟨by decide +kernel, by decide +kernel⟩, List.mem_of_getElem? (i := 30) (by decide +kernel), List.mem_of_getElem? (i := 966) (by decide +kernel), List.mem_of_getElem? (i := 967) (by decide +kernel)⟩
theorem lw_p21 : lw_okq (⟨"LikenessPound$World", "drawAct", "(II)I"⟩, 3) := ⟨⟨by decide +kernel, by decide +kernel⟩, List.mem_of_getElem? (i := 362) (by decide +kernel), List.mem_of_getElem? (i := 1172) (by decide +kernel), List.mem_of_getElem? (i := 1173) (by decide +kernel)⟩
theorem lw_p22 : lw_okq (⟨"LikenessPound$BookText", "readLine", "(LLikenessPound$Tape;LLikenessPound$Colony;)Z"⟩, 10) := ⟨⟨by decide +kernel, by decide +kernel⟩, List.mem_of_getElem? (i := 170) (by decide +kernel), List.mem_of_getElem? (i := 1205) (by decide +kernel), List.mem_of_getElem? (i := 1206) (by decide +kernel)⟩
theorem lw_p23 : lw_okq (⟨"LikenessPound$BookText", "readVerb", "(LLikenessPound$Tape;LLikenessPound$Colony;)Z"⟩, 10) := ⟨⟨by decide +kernel, by decide +kernel⟩, List.mem_of_getElem? (i := 170) (by decide +kernel), List.mem_of_getElem? (i := 1213) (by decide +kernel), List.mem_of_getElem? (i := 1214) (by decide +kernel)⟩
theorem lw_p24 : lw_okq (⟨"LikenessPound$BookText", "readDone", "(LLikenessPound$Tape;LLikenessPound$Colony;)Z"⟩, 10) := ⟨⟨by decide +kernel, by decide +kernel⟩, List.mem_of_getElem? (i := 170) (by decide +kernel), List.mem_of_getElem? (i := 1217) (by decide +kernel), List.mem_of_getElem? (i := 1218) (by decide +kernel)⟩
theorem lw_p25 : lw_okq (⟨"LikenessPound$BookText", "readWhom", "(LLikenessPound$Tape;LLikenessPound$Colony;)Z"⟩, 10) := ⟨⟨by decide +kernel, by decide +kernel⟩, List.mem_of_getElem? (i := 170) (by decide +kernel), List.mem_of_getElem? (i := 1222) (by decide +kernel), List.mem_of_getElem? (i := 1223) (by decide +kernel)⟩
theorem lw_p26 : lw_okq (⟨"LikenessPound$BookText", "readLoan", "(LLikenessPound$Tape;)Z"⟩, 10) := ⟨⟨by decide +kernel, by decide +kernel⟩, List.mem_of_getElem? (i := 170) (by decide +kernel), List.mem_of_getElem? (i := 1226) (by decide +kernel), List.mem_of_getElem? (i := 1227) (by decide +kernel)⟩
theorem lw_p27 : lw_okq (⟨"LikenessPound$BookText", "liveLine", "(ILLikenessPound$World;)I"⟩, 10) := ⟨⟨by decide +kernel, by decide +kernel⟩, List.mem_of_getElem? (i := 170) (by decide +kernel), List.mem_of_getElem? (i := 1235) (by decide +kernel), List.mem_of_getElem? (i := 1236) (by decide +kernel)⟩
theorem lw_p28 : lw_okq (⟨"LikenessPound$Sentence", "readAny", "(LLikenessPound$Tape;LLikenessPound$Colony;I)Z"⟩, 6) := ⟨⟨by decide +kernel, by decide +kernel⟩, List.mem_of_getElem? (i := 434) (by decide +kernel), List.mem_of_getElem? (i := 1267) (by decide +kernel), List.mem_of_getElem? (i := 1268) (by decide +kernel)⟩
theorem lw_p29 : lw_okq (⟨"LikenessPound$Sentence", "readAll", "(LLikenessPound$Tape;LLikenessPound$Colony;I)Z"⟩, 6) := ⟨⟨by decide +kernel, by decide +kernel⟩, List.mem_of_getElem? (i := 434) (by decide +kernel), List.mem_of_getElem? (i := 1271) (by decide +kernel), List.mem_of_getElem? (i := 1272) (by decide +kernel)⟩
theorem lw_p30 : lw_okq (⟨"LikenessPound$Sentence", "readOne", "(LLikenessPound$Tape;LLikenessPound$Colony;I)Z"⟩, 6) := ⟨⟨by decide +kernel, by decide +kernel⟩, List.mem_of_getElem? (i := 434) (by decide +kernel), List.mem_of_getElem? (i := 1275) (by decide +kernel), List.mem_of_getElem? (i := 1276) (by decide +kernel)⟩
theorem lw_p31 : lw_okq (⟨"LikenessPound$Sentence", "put", "(III)Z"⟩, 6) := ⟨⟨by decide +kernel, by decide +kernel⟩, List.mem_of_getElem? (i := 434) (by decide +kernel), List.mem_of_getElem? (i := 1285) (by decide +kernel), List.mem_of_getElem? (i := 1286) (by decide +kernel)⟩
def lw_privs_2 : List (MethodName × Nat) := [(⟨"LikenessPound$Sums", "addWays", "(III)V"⟩, 3), (⟨"LikenessPound", "pickSide", "(IZ)V"⟩, 17), (⟨"LikenessPound$Sums", "fewestFrom", "(III)I"⟩, 3), (⟨"LikenessPound$Sums", "firstTimes", "(III)I"⟩, 3), (⟨"LikenessPound", "fewestGood", "(II)I"⟩, 17), (⟨"LikenessPound$World", "drawAct", "(II)I"⟩, 3), (⟨"LikenessPound$BookText", "readLine", "(LLikenessPound$Tape;LLikenessPound$Colony;)Z"⟩, 10), (⟨"LikenessPound$BookText", "readVerb", "(LLikenessPound$Tape;LLikenessPound$Colony;)Z"⟩, 10), (⟨"LikenessPound$BookText", "readDone", "(LLikenessPound$Tape;LLikenessPound$Colony;)Z"⟩, 10), (⟨"LikenessPound$BookText", "readWhom", "(LLikenessPound$Tape;LLikenessPound$Colony;)Z"⟩, 10), (⟨"LikenessPound$BookText", "readLoan", "(LLikenessPound$Tape;)Z"⟩, 10), (⟨"LikenessPound$BookText", "liveLine", "(ILLikenessPound$World;)I"⟩, 10), (⟨"LikenessPound$Sentence", "readAny", "(LLikenessPound$Tape;LLikenessPound$Colony;I)Z"⟩, 6), (⟨"LikenessPound$Sentence", "readAll", "(LLikenessPound$Tape;LLikenessPound$Colony;I)Z"⟩, 6), (⟨"LikenessPound$Sentence", "readOne", "(LLikenessPound$Tape;LLikenessPound$Colony;I)Z"⟩, 6), (⟨"LikenessPound$Sentence", "put", "(III)Z"⟩, 6)]
theorem lw_r2 : ∀ q ∈ lw_privs_2, lw_okq q := List.forall_mem_cons.mpr ⟨lw_p16, List.forall_mem_cons.mpr ⟨lw_p17, List.forall_mem_cons.mpr ⟨lw_p18, List.forall_mem_cons.mpr ⟨lw_p19, List.forall_mem_cons.mpr ⟨lw_p20, List.forall_mem_cons.mpr ⟨lw_p21, List.forall_mem_cons.mpr ⟨lw_p22, List.forall_mem_cons.mpr ⟨lw_p23, List.forall_mem_cons.mpr ⟨lw_p24, List.forall_mem_cons.mpr ⟨lw_p25, List.forall_mem_cons.mpr ⟨lw_p26, List.forall_mem_cons.mpr ⟨lw_p27, List.forall_mem_cons.mpr ⟨lw_p28, List.forall_mem_cons.mpr ⟨lw_p29, List.forall_mem_cons.mpr ⟨lw_p30, List.forall_mem_cons.mpr ⟨lw_p31, fun _ h => absurd h List.not_mem_nil⟩⟩⟩⟩⟩⟩⟩⟩⟩⟩⟩⟩⟩⟩⟩⟩
theorem lw_p32 : lw_okq (⟨"LikenessPound$Sentence", "readNamed", "(IILLikenessPound$Tape;)Z"⟩, 6) := ⟨⟨by decide +kernel, by decide +kernel⟩, List.mem_of_getElem? (i := 434) (by decide +kernel), List.mem_of_getElem? (i := 1290) (by decide +kernel), List.mem_of_getElem? (i := 1291) (by decide +kernel)⟩
theorem lw_p33 : lw_okq (⟨"LikenessPound$Sentence", "readCompared", "(ILLikenessPound$Tape;)Z"⟩, 6) := ⟨⟨by decide +kernel, by decide +kernel⟩, List.mem_of_getElem? (i := 434) (by decide +kernel), List.mem_of_getElem? (i := 1298) (by decide +kernel), List.mem_of_getElem? (i := 1299) (by decide +kernel)⟩
theorem lw_p34 : lw_okq (⟨"LikenessPound$Sentence", "plainTrueOf", "(ILLikenessPound$World;)I"⟩, 6) := ⟨⟨by decide +kernel, by decide +kernel⟩, List.mem_of_getElem? (i := 434) (by decide +kernel), List.mem_of_getElem? (i := 1316) (by decide +kernel), List.mem_of_getElem? (i := 1317) (by decide +kernel)⟩
theorem lw_p35 : lw_okq (⟨"LikenessPound$Sentence", "isTrue", "(IILLikenessPound$World;)Z"⟩, 6) := ⟨⟨by decide +kernel, by decide +kernel⟩, List.mem_of_getElem? (i := 434) (by decide +kernel), List.mem_of_getElem? (i := 1320) (by decide +kernel), List.mem_of_getElem? (i := 1321) (by decide +kernel)⟩
theorem lw_p36 : lw_okq (⟨"LikenessPound$Sentence", "holds", "(II)Z"⟩, 6) := ⟨⟨by decide +kernel, by decide +kernel⟩, List.mem_of_getElem? (i := 434) (by decide +kernel), List.mem_of_getElem? (i := 1327) (by decide +kernel), List.mem_of_getElem? (i := 1328) (by decide +kernel)⟩
theorem lw_p37 : lw_okq (⟨"java/lang/Throwable", "fillInStackTrace", "(I)Ljava/lang/Throwable;"⟩, 6) := ⟨⟨by decide +kernel, by decide +kernel⟩, List.mem_of_getElem? (i := 1395) (by decide +kernel), List.mem_of_getElem? (i := 1393) (by decide +kernel), List.mem_of_getElem? (i := 1394) (by decide +kernel)⟩
theorem lw_p38 : lw_okq (⟨"LikenessPoundModel", "come", "(I)V"⟩, 47) := ⟨⟨by decide +kernel, by decide +kernel⟩, List.mem_of_getElem? (i := 1431) (by decide +kernel), List.mem_of_getElem? (i := 1429) (by decide +kernel), List.mem_of_getElem? (i := 1430) (by decide +kernel)⟩
theorem lw_p39 : lw_okq (⟨"LikenessPoundModel", "startSo", "()V"⟩, 47) := ⟨⟨by decide +kernel, by decide +kernel⟩, List.mem_of_getElem? (i := 1431) (by decide +kernel), List.mem_of_getElem? (i := 1443) (by decide +kernel), List.mem_of_getElem? (i := 1444) (by decide +kernel)⟩
theorem lw_p40 : lw_okq (⟨"LikenessPoundModel", "begin", "(I)V"⟩, 47) := ⟨⟨by decide +kernel, by decide +kernel⟩, List.mem_of_getElem? (i := 1431) (by decide +kernel), List.mem_of_getElem? (i := 1593) (by decide +kernel), List.mem_of_getElem? (i := 1594) (by decide +kernel)⟩
theorem lw_p41 : lw_okq (⟨"LikenessPoundModel", "take", "()I"⟩, 47) := ⟨⟨by decide +kernel, by decide +kernel⟩, List.mem_of_getElem? (i := 1431) (by decide +kernel), List.mem_of_getElem? (i := 1597) (by decide +kernel), List.mem_of_getElem? (i := 1598) (by decide +kernel)⟩
theorem lw_p42 : lw_okq (⟨"LikenessPoundModel", "go", "()V"⟩, 47) := ⟨⟨by decide +kernel, by decide +kernel⟩, List.mem_of_getElem? (i := 1431) (by decide +kernel), List.mem_of_getElem? (i := 1601) (by decide +kernel), List.mem_of_getElem? (i := 1602) (by decide +kernel)⟩
theorem lw_p43 : lw_okq (⟨"LikenessPoundModel", "tapeAt", "(I)I"⟩, 47) := ⟨⟨by decide +kernel, by decide +kernel⟩, List.mem_of_getElem? (i := 1431) (by decide +kernel), List.mem_of_getElem? (i := 1611) (by decide +kernel), List.mem_of_getElem? (i := 1612) (by decide +kernel)⟩
theorem lw_p44 : lw_okq (⟨"LikenessPoundModel", "readLine", "()Z"⟩, 47) := ⟨⟨by decide +kernel, by decide +kernel⟩, List.mem_of_getElem? (i := 1431) (by decide +kernel), List.mem_of_getElem? (i := 1617) (by decide +kernel), List.mem_of_getElem? (i := 1618) (by decide +kernel)⟩
theorem lw_p45 : lw_okq (⟨"LikenessPoundModel", "isWord", "(I)Z"⟩, 47) := ⟨⟨by decide +kernel, by decide +kernel⟩, List.mem_of_getElem? (i := 1431) (by decide +kernel), List.mem_of_getElem? (i := 1621) (by decide +kernel), List.mem_of_getElem? (i := 1622) (by decide +kernel)⟩
theorem lw_p46 : lw_okq (⟨"LikenessPoundModel", "readMan", "()Z"⟩, 47) := ⟨⟨by decide +kernel, by decide +kernel⟩, List.mem_of_getElem? (i := 1431) (by decide +kernel), List.mem_of_getElem? (i := 1631) (by decide +kernel), List.mem_of_getElem? (i := 1632) (by decide +kernel)⟩
theorem lw_p47 : lw_okq (⟨"LikenessPoundModel", "readFirst", "(II)Z"⟩, 47) := ⟨⟨by decide +kernel, by decide +kernel⟩, List.mem_of_getElem? (i := 1431) (by decide +kernel), List.mem_of_getElem? (i := 1635) (by decide +kernel), List.mem_of_getElem? (i := 1636) (by decide +kernel)⟩
def lw_privs_3 : List (MethodName × Nat) := [(⟨"LikenessPound$Sentence", "readNamed", "(IILLikenessPound$Tape;)Z"⟩, 6), (⟨"LikenessPound$Sentence", "readCompared", "(ILLikenessPound$Tape;)Z"⟩, 6), (⟨"LikenessPound$Sentence", "plainTrueOf", "(ILLikenessPound$World;)I"⟩, 6), (⟨"LikenessPound$Sentence", "isTrue", "(IILLikenessPound$World;)Z"⟩, 6), (⟨"LikenessPound$Sentence", "holds", "(II)Z"⟩, 6), (⟨"java/lang/Throwable", "fillInStackTrace", "(I)Ljava/lang/Throwable;"⟩, 6), (⟨"LikenessPoundModel", "come", "(I)V"⟩, 47), (⟨"LikenessPoundModel", "startSo", "()V"⟩, 47), (⟨"LikenessPoundModel", "begin", "(I)V"⟩, 47), (⟨"LikenessPoundModel", "take", "()I"⟩, 47), (⟨"LikenessPoundModel", "go", "()V"⟩, 47), (⟨"LikenessPoundModel", "tapeAt", "(I)I"⟩, 47), (⟨"LikenessPoundModel", "readLine", "()Z"⟩, 47), (⟨"LikenessPoundModel", "isWord", "(I)Z"⟩, 47), (⟨"LikenessPoundModel", "readMan", "()Z"⟩, 47), (⟨"LikenessPoundModel", "readFirst", "(II)Z"⟩, 47)]
theorem lw_r3 : ∀ q ∈ lw_privs_3, lw_okq q := List.forall_mem_cons.mpr ⟨lw_p32, List.forall_mem_cons.mpr ⟨lw_p33, List.forall_mem_cons.mpr ⟨lw_p34, List.forall_mem_cons.mpr ⟨lw_p35, List.forall_mem_cons.mpr ⟨lw_p36, List.forall_mem_cons.mpr ⟨lw_p37, List.forall_mem_cons.mpr ⟨lw_p38, List.forall_mem_cons.mpr ⟨lw_p39, List.forall_mem_cons.mpr ⟨lw_p40, List.forall_mem_cons.mpr ⟨lw_p41, List.forall_mem_cons.mpr ⟨lw_p42, List.forall_mem_cons.mpr ⟨lw_p43, List.forall_mem_cons.mpr ⟨lw_p44, List.forall_mem_cons.mpr ⟨lw_p45, List.forall_mem_cons.mpr ⟨lw_p46, List.forall_mem_cons.mpr ⟨lw_p47, fun _ h => absurd h List.not_mem_nil⟩⟩⟩⟩⟩⟩⟩⟩⟩⟩⟩⟩⟩⟩⟩⟩
theorem lw_p48 : lw_okq (⟨"LikenessPoundModel", "bad", "(I)Z"⟩, 47) := ⟨⟨by decide +kernel, by decide +kernel⟩, List.mem_of_getElem? (i := 1431) (by decide +kernel), List.mem_of_getElem? (i := 1639) (by decide +kernel), List.mem_of_getElem? (i := 1640) (by decide +kernel)⟩
theorem lw_p49 : lw_okq (⟨"LikenessPoundModel", "readNew", "(I)Z"⟩, 47) := ⟨⟨by decide +kernel, by decide +kernel⟩, List.mem_of_getElem? (i := 1431) (by decide +kernel), List.mem_of_getElem? (i := 1643) (by decide +kernel), List.mem_of_getElem? (i := 1644) (by decide +kernel)⟩
theorem lw_p50 : lw_okq (⟨"LikenessPoundModel", "isName", "()Z"⟩, 47) := ⟨⟨by decide +kernel, by decide +kernel⟩, List.mem_of_getElem? (i := 1431) (by decide +kernel), List.mem_of_getElem? (i := 1647) (by decide +kernel), List.mem_of_getElem? (i := 1648) (by decide +kernel)⟩
theorem lw_p51 : lw_okq (⟨"LikenessPoundModel", "readNumber", "(II)Z"⟩, 47) := ⟨⟨by decide +kernel, by decide +kernel⟩, List.mem_of_getElem? (i := 1431) (by decide +kernel), List.mem_of_getElem? (i := 1654) (by decide +kernel), List.mem_of_getElem? (i := 1655) (by decide +kernel)⟩
theorem lw_p52 : lw_okq (⟨"LikenessPoundModel", "put", "(IZ)Z"⟩, 47) := ⟨⟨by decide +kernel, by decide +kernel⟩, List.mem_of_getElem? (i := 1431) (by decide +kernel), List.mem_of_getElem? (i := 1661) (by decide +kernel), List.mem_of_getElem? (i := 1662) (by decide +kernel)⟩
theorem lw_p53 : lw_okq (⟨"LikenessPoundModel", "readDeed", "()Z"⟩, 47) := ⟨⟨by decide +kernel, by decide +kernel⟩, List.mem_of_getElem? (i := 1431) (by decide +kernel), List.mem_of_getElem? (i := 1665) (by decide +kernel), List.mem_of_getElem? (i := 1666) (by decide +kernel)⟩
theorem lw_p54 : lw_okq (⟨"LikenessPoundModel", "readDid", "()Z"⟩, 47) := ⟨⟨by decide +kernel, by decide +kernel⟩, List.mem_of_getElem? (i := 1431) (by decide +kernel), List.mem_of_getElem? (i := 1669) (by decide +kernel), List.mem_of_getElem? (i := 1670) (by decide +kernel)⟩
theorem lw_p55 : lw_okq (⟨"LikenessPoundModel", "isOne", "(II)Z"⟩, 47) := ⟨⟨by decide +kernel, by decide +kernel⟩, List.mem_of_getElem? (i := 1431) (by decide +kernel), List.mem_of_getElem? (i := 1673) (by decide +kernel), List.mem_of_getElem? (i := 1674) (by decide +kernel)⟩
theorem lw_p56 : lw_okq (⟨"LikenessPoundModel", "readKin", "()Z"⟩, 47) := ⟨⟨by decide +kernel, by decide +kernel⟩, List.mem_of_getElem? (i := 1431) (by decide +kernel), List.mem_of_getElem? (i := 1677) (by decide +kernel), List.mem_of_getElem? (i := 1678) (by decide +kernel)⟩
theorem lw_p57 : lw_okq (⟨"LikenessPoundModel", "readPair", "()I"⟩, 47) := ⟨⟨by decide +kernel, by decide +kernel⟩, List.mem_of_getElem? (i := 1431) (by decide +kernel), List.mem_of_getElem? (i := 1681) (by decide +kernel), List.mem_of_getElem? (i := 1682) (by decide +kernel)⟩
theorem lw_p58 : lw_okq (⟨"LikenessPoundModel", "readOwes", "()Z"⟩, 47) := ⟨⟨by decide +kernel, by decide +kernel⟩, List.mem_of_getElem? (i := 1431) (by decide +kernel), List.mem_of_getElem? (i := 1688) (by decide +kernel), List.mem_of_getElem? (i := 1689) (by decide +kernel)⟩
theorem lw_p59 : lw_okq (⟨"LikenessPoundModel", "readOnce", "(IIII)Z"⟩, 47) := ⟨⟨by decide +kernel, by decide +kernel⟩, List.mem_of_getElem? (i := 1431) (by decide +kernel), List.mem_of_getElem? (i := 1692) (by decide +kernel), List.mem_of_getElem? (i := 1693) (by decide +kernel)⟩
theorem lw_p60 : lw_okq (⟨"LikenessPoundModel", "readEnd", "()Z"⟩, 47) := ⟨⟨by decide +kernel, by decide +kernel⟩, List.mem_of_getElem? (i := 1431) (by decide +kernel), List.mem_of_getElem? (i := 1696) (by decide +kernel), List.mem_of_getElem? (i := 1697) (by decide +kernel)⟩
theorem lw_p61 : lw_okq (⟨"LikenessPoundModel", "isSign", "(I)Z"⟩, 47) := ⟨⟨by decide +kernel, by decide +kernel⟩, List.mem_of_getElem? (i := 1431) (by decide +kernel), List.mem_of_getElem? (i := 1700) (by decide +kernel), List.mem_of_getElem? (i := 1701) (by decide +kernel)⟩
theorem lw_p62 : lw_okq (⟨"LikenessPoundModel", "isMan", "(I)Z"⟩, 47) := ⟨⟨by decide +kernel, by decide +kernel⟩, List.mem_of_getElem? (i := 1431) (by decide +kernel), List.mem_of_getElem? (i := 1712) (by decide +kernel), List.mem_of_getElem? (i := 1713) (by decide +kernel)⟩
theorem lw_p63 : lw_okq (⟨"LikenessPoundModel", "refuse", "()I"⟩, 47) := ⟨⟨by decide +kernel, by decide +kernel⟩, List.mem_of_getElem? (i := 1431) (by decide +kernel), List.mem_of_getElem? (i := 1716) (by decide +kernel), List.mem_of_getElem? (i := 1717) (by decide +kernel)⟩
def lw_privs_4 : List (MethodName × Nat) := [(⟨"LikenessPoundModel", "bad", "(I)Z"⟩, 47), (⟨"LikenessPoundModel", "readNew", "(I)Z"⟩, 47), (⟨"LikenessPoundModel", "isName", "()Z"⟩, 47), (⟨"LikenessPoundModel", "readNumber", "(II)Z"⟩, 47), (⟨"LikenessPoundModel", "put", "(IZ)Z"⟩, 47), (⟨"LikenessPoundModel", "readDeed", "()Z"⟩, 47), (⟨"LikenessPoundModel", "readDid", "()Z"⟩, 47), (⟨"LikenessPoundModel", "isOne", "(II)Z"⟩, 47), (⟨"LikenessPoundModel", "readKin", "()Z"⟩, 47), (⟨"LikenessPoundModel", "readPair", "()I"⟩, 47), (⟨"LikenessPoundModel", "readOwes", "()Z"⟩, 47), (⟨"LikenessPoundModel", "readOnce", "(IIII)Z"⟩, 47), (⟨"LikenessPoundModel", "readEnd", "()Z"⟩, 47), (⟨"LikenessPoundModel", "isSign", "(I)Z"⟩, 47), (⟨"LikenessPoundModel", "isMan", "(I)Z"⟩, 47), (⟨"LikenessPoundModel", "refuse", "()I"⟩, 47)]
theorem lw_r4 : ∀ q ∈ lw_privs_4, lw_okq q := List.forall_mem_cons.mpr ⟨lw_p48, List.forall_mem_cons.mpr ⟨lw_p49, List.forall_mem_cons.mpr ⟨lw_p50, List.forall_mem_cons.mpr ⟨lw_p51, List.forall_mem_cons.mpr ⟨lw_p52, List.forall_mem_cons.mpr ⟨lw_p53, List.forall_mem_cons.mpr ⟨lw_p54, List.forall_mem_cons.mpr ⟨lw_p55, List.forall_mem_cons.mpr ⟨lw_p56, List.forall_mem_cons.mpr ⟨lw_p57, List.forall_mem_cons.mpr ⟨lw_p58, List.forall_mem_cons.mpr ⟨lw_p59, List.forall_mem_cons.mpr ⟨lw_p60, List.forall_mem_cons.mpr ⟨lw_p61, List.forall_mem_cons.mpr ⟨lw_p62, List.forall_mem_cons.mpr ⟨lw_p63, fun _ h => absurd h List.not_mem_nil⟩⟩⟩⟩⟩⟩⟩⟩⟩⟩⟩⟩⟩⟩⟩⟩
theorem lw_p64 : lw_okq (⟨"LikenessPoundModel", "whiteOf", "(I)I"⟩, 47) := ⟨⟨by decide +kernel, by decide +kernel⟩, List.mem_of_getElem? (i := 1431) (by decide +kernel), List.mem_of_getElem? (i := 1720) (by decide +kernel), List.mem_of_getElem? (i := 1721) (by decide +kernel)⟩
theorem lw_p65 : lw_okq (⟨"LikenessPoundModel", "weightOf", "(II)I"⟩, 47) := ⟨⟨by decide +kernel, by decide +kernel⟩, List.mem_of_getElem? (i := 1431) (by decide +kernel), List.mem_of_getElem? (i := 1724) (by decide +kernel), List.mem_of_getElem? (i := 1725) (by decide +kernel)⟩
theorem lw_p66 : lw_okq (⟨"LikenessPoundModel", "didOf", "(II)I"⟩, 47) := ⟨⟨by decide +kernel, by decide +kernel⟩, List.mem_of_getElem? (i := 1431) (by decide +kernel), List.mem_of_getElem? (i := 1728) (by decide +kernel), List.mem_of_getElem? (i := 1729) (by decide +kernel)⟩
theorem lw_p67 : lw_okq (⟨"LikenessPoundModel", "darkOf", "(I)I"⟩, 47) := ⟨⟨by decide +kernel, by decide +kernel⟩, List.mem_of_getElem? (i := 1431) (by decide +kernel), List.mem_of_getElem? (i := 1732) (by decide +kernel), List.mem_of_getElem? (i := 1733) (by decide +kernel)⟩
theorem lw_p68 : lw_okq (⟨"LikenessPoundModel", "owesAll", "(I)I"⟩, 47) := ⟨⟨by decide +kernel, by decide +kernel⟩, List.mem_of_getElem? (i := 1431) (by decide +kernel), List.mem_of_getElem? (i := 1736) (by decide +kernel), List.mem_of_getElem? (i := 1737) (by decide +kernel)⟩
theorem lw_p69 : lw_okq (⟨"LikenessPoundModel", "owesOf", "(II)I"⟩, 47) := ⟨⟨by decide +kernel, by decide +kernel⟩, List.mem_of_getElem? (i := 1431) (by decide +kernel), List.mem_of_getElem? (i := 1740) (by decide +kernel), List.mem_of_getElem? (i := 1741) (by decide +kernel)⟩
theorem lw_p70 : lw_okq (⟨"LikenessPoundModel", "howOf", "(I)I"⟩, 47) := ⟨⟨by decide +kernel, by decide +kernel⟩, List.mem_of_getElem? (i := 1431) (by decide +kernel), List.mem_of_getElem? (i := 1744) (by decide +kernel), List.mem_of_getElem? (i := 1745) (by decide +kernel)⟩
theorem lw_p71 : lw_okq (⟨"LikenessPoundModel", "allOf", "(I)I"⟩, 47) := ⟨⟨by decide +kernel, by decide +kernel⟩, List.mem_of_getElem? (i := 1431) (by decide +kernel), List.mem_of_getElem? (i := 1748) (by decide +kernel), List.mem_of_getElem? (i := 1749) (by decide +kernel)⟩
theorem lw_p72 : lw_okq (⟨"LikenessPoundModel", "isDeed", "(I)Z"⟩, 47) := ⟨⟨by decide +kernel, by decide +kernel⟩, List.mem_of_getElem? (i := 1431) (by decide +kernel), List.mem_of_getElem? (i := 1756) (by decide +kernel), List.mem_of_getElem? (i := 1757) (by decide +kernel)⟩
theorem lw_p73 : lw_okq (⟨"LikenessPoundModel", "those", "(I)I"⟩, 47) := ⟨⟨by decide +kernel, by decide +kernel⟩, List.mem_of_getElem? (i := 1431) (by decide +kernel), List.mem_of_getElem? (i := 1784) (by decide +kernel), List.mem_of_getElem? (i := 1785) (by decide +kernel)⟩
theorem lw_p74 : lw_okq (⟨"LikenessPoundModel", "lends", "(I)Z"⟩, 47) := ⟨⟨by decide +kernel, by decide +kernel⟩, List.mem_of_getElem? (i := 1431) (by decide +kernel), List.mem_of_getElem? (i := 1788) (by decide +kernel), List.mem_of_getElem? (i := 1789) (by decide +kernel)⟩
theorem lw_p75 : lw_okq (⟨"LikenessPoundModel", "doIt", "(IIII)I"⟩, 47) := ⟨⟨by decide +kernel, by decide +kernel⟩, List.mem_of_getElem? (i := 1431) (by decide +kernel), List.mem_of_getElem? (i := 1796) (by decide +kernel), List.mem_of_getElem? (i := 1797) (by decide +kernel)⟩
theorem lw_p76 : lw_okq (⟨"LikenessPoundModel", "why", "(IIII)I"⟩, 47) := ⟨⟨by decide +kernel, by decide +kernel⟩, List.mem_of_getElem? (i := 1431) (by decide +kernel), List.mem_of_getElem? (i := 1800) (by decide +kernel), List.mem_of_getElem? (i := 1801) (by decide +kernel)⟩
theorem lw_p77 : lw_okq (⟨"LikenessPoundModel", "snap", "()V"⟩, 47) := ⟨⟨by decide +kernel, by decide +kernel⟩, List.mem_of_getElem? (i := 1431) (by decide +kernel), List.mem_of_getElem? (i := 1804) (by decide +kernel), List.mem_of_getElem? (i := 1805) (by decide +kernel)⟩
theorem lw_p78 : lw_okq (⟨"LikenessPoundModel", "live", "(IIII)V"⟩, 47) := ⟨⟨by decide +kernel, by decide +kernel⟩, List.mem_of_getElem? (i := 1431) (by decide +kernel), List.mem_of_getElem? (i := 1808) (by decide +kernel), List.mem_of_getElem? (i := 1809) (by decide +kernel)⟩
theorem lw_p79 : lw_okq (⟨"LikenessPoundModel", "back1", "(I)V"⟩, 47) := ⟨⟨by decide +kernel, by decide +kernel⟩, List.mem_of_getElem? (i := 1431) (by decide +kernel), List.mem_of_getElem? (i := 1812) (by decide +kernel), List.mem_of_getElem? (i := 1813) (by decide +kernel)⟩
def lw_privs_5 : List (MethodName × Nat) := [(⟨"LikenessPoundModel", "whiteOf", "(I)I"⟩, 47), (⟨"LikenessPoundModel", "weightOf", "(II)I"⟩, 47), (⟨"LikenessPoundModel", "didOf", "(II)I"⟩, 47), (⟨"LikenessPoundModel", "darkOf", "(I)I"⟩, 47), (⟨"LikenessPoundModel", "owesAll", "(I)I"⟩, 47), (⟨"LikenessPoundModel", "owesOf", "(II)I"⟩, 47), (⟨"LikenessPoundModel", "howOf", "(I)I"⟩, 47), (⟨"LikenessPoundModel", "allOf", "(I)I"⟩, 47), (⟨"LikenessPoundModel", "isDeed", "(I)Z"⟩, 47), (⟨"LikenessPoundModel", "those", "(I)I"⟩, 47), (⟨"LikenessPoundModel", "lends", "(I)Z"⟩, 47), (⟨"LikenessPoundModel", "doIt", "(IIII)I"⟩, 47), (⟨"LikenessPoundModel", "why", "(IIII)I"⟩, 47), (⟨"LikenessPoundModel", "snap", "()V"⟩, 47), (⟨"LikenessPoundModel", "live", "(IIII)V"⟩, 47), (⟨"LikenessPoundModel", "back1", "(I)V"⟩, 47)]
theorem lw_r5 : ∀ q ∈ lw_privs_5, lw_okq q := List.forall_mem_cons.mpr ⟨lw_p64, List.forall_mem_cons.mpr ⟨lw_p65, List.forall_mem_cons.mpr ⟨lw_p66, List.forall_mem_cons.mpr ⟨lw_p67, List.forall_mem_cons.mpr ⟨lw_p68, List.forall_mem_cons.mpr ⟨lw_p69, List.forall_mem_cons.mpr ⟨lw_p70, List.forall_mem_cons.mpr ⟨lw_p71, List.forall_mem_cons.mpr ⟨lw_p72, List.forall_mem_cons.mpr ⟨lw_p73, List.forall_mem_cons.mpr ⟨lw_p74, List.forall_mem_cons.mpr ⟨lw_p75, List.forall_mem_cons.mpr ⟨lw_p76, List.forall_mem_cons.mpr ⟨lw_p77, List.forall_mem_cons.mpr ⟨lw_p78, List.forall_mem_cons.mpr ⟨lw_p79, fun _ h => absurd h List.not_mem_nil⟩⟩⟩⟩⟩⟩⟩⟩⟩⟩⟩⟩⟩⟩⟩⟩
theorem lw_p80 : lw_okq (⟨"LikenessPoundModel", "doSit", "(I)V"⟩, 47) := ⟨⟨by decide +kernel, by decide +kernel⟩, List.mem_of_getElem? (i := 1431) (by decide +kernel), List.mem_of_getElem? (i := 1816) (by decide +kernel), List.mem_of_getElem? (i := 1817) (by decide +kernel)⟩
theorem lw_p81 : lw_okq (⟨"LikenessPoundModel", "passYears", "(I)I"⟩, 47) := ⟨⟨by decide +kernel, by decide +kernel⟩, List.mem_of_getElem? (i := 1431) (by decide +kernel), List.mem_of_getElem? (i := 1844) (by decide +kernel), List.mem_of_getElem? (i := 1845) (by decide +kernel)⟩
theorem lw_p82 : lw_okq (⟨"LikenessPoundModel", "oneYear", "()V"⟩, 47) := ⟨⟨by decide +kernel, by decide +kernel⟩, List.mem_of_getElem? (i := 1431) (by decide +kernel), List.mem_of_getElem? (i := 1851) (by decide +kernel), List.mem_of_getElem? (i := 1852) (by decide +kernel)⟩
theorem lw_p83 : lw_okq (⟨"LikenessPoundModel", "weightsOf", "(I)I"⟩, 47) := ⟨⟨by decide +kernel, by decide +kernel⟩, List.mem_of_getElem? (i := 1431) (by decide +kernel), List.mem_of_getElem? (i := 1867) (by decide +kernel), List.mem_of_getElem? (i := 1868) (by decide +kernel)⟩
theorem lw_p84 : lw_okq (⟨"LikenessPoundModel", "wouldLend", "(I)I"⟩, 47) := ⟨⟨by decide +kernel, by decide +kernel⟩, List.mem_of_getElem? (i := 1431) (by decide +kernel), List.mem_of_getElem? (i := 1878) (by decide +kernel), List.mem_of_getElem? (i := 1879) (by decide +kernel)⟩
theorem lw_p85 : lw_okq (⟨"LikenessPoundModel", "layWays", "()V"⟩, 47) := ⟨⟨by decide +kernel, by decide +kernel⟩, List.mem_of_getElem? (i := 1431) (by decide +kernel), List.mem_of_getElem? (i := 1891) (by decide +kernel), List.mem_of_getElem? (i := 1892) (by decide +kernel)⟩
theorem lw_p86 : lw_okq (⟨"LikenessPoundModel", "layCell", "(IIII)V"⟩, 47) := ⟨⟨by decide +kernel, by decide +kernel⟩, List.mem_of_getElem? (i := 1431) (by decide +kernel), List.mem_of_getElem? (i := 1899) (by decide +kernel), List.mem_of_getElem? (i := 1900) (by decide +kernel)⟩
theorem lw_p87 : lw_okq (⟨"LikenessPoundModel", "careerFrom", "(IIIII)V"⟩, 47) := ⟨⟨by decide +kernel, by decide +kernel⟩, List.mem_of_getElem? (i := 1431) (by decide +kernel), List.mem_of_getElem? (i := 1911) (by decide +kernel), List.mem_of_getElem? (i := 1912) (by decide +kernel)⟩
theorem lw_p88 : lw_okq (⟨"LikenessPoundModel", "writeWord", "(J)V"⟩, 47) := ⟨⟨by decide +kernel, by decide +kernel⟩, List.mem_of_getElem? (i := 1431) (by decide +kernel), List.mem_of_getElem? (i := 1931) (by decide +kernel), List.mem_of_getElem? (i := 1932) (by decide +kernel)⟩
theorem lw_p89 : lw_okq (⟨"LikenessPoundModel", "write", "(I)V"⟩, 47) := ⟨⟨by decide +kernel, by decide +kernel⟩, List.mem_of_getElem? (i := 1431) (by decide +kernel), List.mem_of_getElem? (i := 1935) (by decide +kernel), List.mem_of_getElem? (i := 1936) (by decide +kernel)⟩
theorem lw_p90 : lw_okq (⟨"LikenessPoundModel", "writeNext", "(J)V"⟩, 47) := ⟨⟨by decide +kernel, by decide +kernel⟩, List.mem_of_getElem? (i := 1431) (by decide +kernel), List.mem_of_getElem? (i := 1939) (by decide +kernel), List.mem_of_getElem? (i := 1940) (by decide +kernel)⟩
theorem lw_p91 : lw_okq (⟨"LikenessPoundModel", "writeNumber", "(I)V"⟩, 47) := ⟨⟨by decide +kernel, by decide +kernel⟩, List.mem_of_getElem? (i := 1431) (by decide +kernel), List.mem_of_getElem? (i := 1943) (by decide +kernel), List.mem_of_getElem? (i := 1944) (by decide +kernel)⟩
theorem lw_p92 : lw_okq (⟨"LikenessPoundModel", "drawYears", "(II)I"⟩, 47) := ⟨⟨by decide +kernel, by decide +kernel⟩, List.mem_of_getElem? (i := 1431) (by decide +kernel), List.mem_of_getElem? (i := 1955) (by decide +kernel), List.mem_of_getElem? (i := 1956) (by decide +kernel)⟩
theorem lw_p93 : lw_okq (⟨"LikenessPoundModel", "drawsFor", "(I)V"⟩, 47) := ⟨⟨by decide +kernel, by decide +kernel⟩, List.mem_of_getElem? (i := 1431) (by decide +kernel), List.mem_of_getElem? (i := 1959) (by decide +kernel), List.mem_of_getElem? (i := 1960) (by decide +kernel)⟩
theorem lw_p94 : lw_okq (⟨"LikenessPoundModel", "draw", "(I)I"⟩, 47) := ⟨⟨by decide +kernel, by decide +kernel⟩, List.mem_of_getElem? (i := 1431) (by decide +kernel), List.mem_of_getElem? (i := 1963) (by decide +kernel), List.mem_of_getElem? (i := 1964) (by decide +kernel)⟩
theorem lw_p95 : lw_okq (⟨"LikenessPoundModel", "layAside", "()V"⟩, 47) := ⟨⟨by decide +kernel, by decide +kernel⟩, List.mem_of_getElem? (i := 1431) (by decide +kernel), List.mem_of_getElem? (i := 1972) (by decide +kernel), List.mem_of_getElem? (i := 1973) (by decide +kernel)⟩
def lw_privs_6 : List (MethodName × Nat) := [(⟨"LikenessPoundModel", "doSit", "(I)V"⟩, 47), (⟨"LikenessPoundModel", "passYears", "(I)I"⟩, 47), (⟨"LikenessPoundModel", "oneYear", "()V"⟩, 47), (⟨"LikenessPoundModel", "weightsOf", "(I)I"⟩, 47), (⟨"LikenessPoundModel", "wouldLend", "(I)I"⟩, 47), (⟨"LikenessPoundModel", "layWays", "()V"⟩, 47), (⟨"LikenessPoundModel", "layCell", "(IIII)V"⟩, 47), (⟨"LikenessPoundModel", "careerFrom", "(IIIII)V"⟩, 47), (⟨"LikenessPoundModel", "writeWord", "(J)V"⟩, 47), (⟨"LikenessPoundModel", "write", "(I)V"⟩, 47), (⟨"LikenessPoundModel", "writeNext", "(J)V"⟩, 47), (⟨"LikenessPoundModel", "writeNumber", "(I)V"⟩, 47), (⟨"LikenessPoundModel", "drawYears", "(II)I"⟩, 47), (⟨"LikenessPoundModel", "drawsFor", "(I)V"⟩, 47), (⟨"LikenessPoundModel", "draw", "(I)I"⟩, 47), (⟨"LikenessPoundModel", "layAside", "()V"⟩, 47)]
theorem lw_r6 : ∀ q ∈ lw_privs_6, lw_okq q := List.forall_mem_cons.mpr ⟨lw_p80, List.forall_mem_cons.mpr ⟨lw_p81, List.forall_mem_cons.mpr ⟨lw_p82, List.forall_mem_cons.mpr ⟨lw_p83, List.forall_mem_cons.mpr ⟨lw_p84, List.forall_mem_cons.mpr ⟨lw_p85, List.forall_mem_cons.mpr ⟨lw_p86, List.forall_mem_cons.mpr ⟨lw_p87, List.forall_mem_cons.mpr ⟨lw_p88, List.forall_mem_cons.mpr ⟨lw_p89, List.forall_mem_cons.mpr ⟨lw_p90, List.forall_mem_cons.mpr ⟨lw_p91, List.forall_mem_cons.mpr ⟨lw_p92, List.forall_mem_cons.mpr ⟨lw_p93, List.forall_mem_cons.mpr ⟨lw_p94, List.forall_mem_cons.mpr ⟨lw_p95, fun _ h => absurd h List.not_mem_nil⟩⟩⟩⟩⟩⟩⟩⟩⟩⟩⟩⟩⟩⟩⟩⟩
theorem lw_p96 : lw_okq (⟨"LikenessPoundModel", "takeBack", "()V"⟩, 47) := ⟨⟨by decide +kernel, by decide +kernel⟩, List.mem_of_getElem? (i := 1431) (by decide +kernel), List.mem_of_getElem? (i := 1976) (by decide +kernel), List.mem_of_getElem? (i := 1977) (by decide +kernel)⟩
theorem lw_p97 : lw_okq (⟨"LikenessPoundModel", "readBookLine", "()Z"⟩, 47) := ⟨⟨by decide +kernel, by decide +kernel⟩, List.mem_of_getElem? (i := 1431) (by decide +kernel), List.mem_of_getElem? (i := 1984) (by decide +kernel), List.mem_of_getElem? (i := 1985) (by decide +kernel)⟩
theorem lw_p98 : lw_okq (⟨"LikenessPoundModel", "keep", "(IZ)Z"⟩, 47) := ⟨⟨by decide +kernel, by decide +kernel⟩, List.mem_of_getElem? (i := 1431) (by decide +kernel), List.mem_of_getElem? (i := 1988) (by decide +kernel), List.mem_of_getElem? (i := 1989) (by decide +kernel)⟩
theorem lw_p99 : lw_okq (⟨"LikenessPoundModel", "readDoes", "(I)Z"⟩, 47) := ⟨⟨by decide +kernel, by decide +kernel⟩, List.mem_of_getElem? (i := 1431) (by decide +kernel), List.mem_of_getElem? (i := 1992) (by decide +kernel), List.mem_of_getElem? (i := 1993) (by decide +kernel)⟩
theorem lw_p100 : lw_okq (⟨"LikenessPoundModel", "readDeedName", "()Z"⟩, 47) := ⟨⟨by decide +kernel, by decide +kernel⟩, List.mem_of_getElem? (i := 1431) (by decide +kernel), List.mem_of_getElem? (i := 1996) (by decide +kernel), List.mem_of_getElem? (i := 1997) (by decide +kernel)⟩
theorem lw_p101 : lw_okq (⟨"LikenessPoundModel", "readNamed", "(II)Z"⟩, 47) := ⟨⟨by decide +kernel, by decide +kernel⟩, List.mem_of_getElem? (i := 1431) (by decide +kernel), List.mem_of_getElem? (i := 2000) (by decide +kernel), List.mem_of_getElem? (i := 2001) (by decide +kernel)⟩
theorem lw_p102 : lw_okq (⟨"LikenessPoundModel", "readManName", "()Z"⟩, 47) := ⟨⟨by decide +kernel, by decide +kernel⟩, List.mem_of_getElem? (i := 1431) (by decide +kernel), List.mem_of_getElem? (i := 2004) (by decide +kernel), List.mem_of_getElem? (i := 2005) (by decide +kernel)⟩
theorem lw_p103 : lw_okq (⟨"LikenessPoundModel", "goBy", "(I)I"⟩, 47) := ⟨⟨by decide +kernel, by decide +kernel⟩, List.mem_of_getElem? (i := 1431) (by decide +kernel), List.mem_of_getElem? (i := 2008) (by decide +kernel), List.mem_of_getElem? (i := 2009) (by decide +kernel)⟩
theorem lw_p104 : lw_okq (⟨"LikenessPoundModel", "stay", "(Z)V"⟩, 47) := ⟨⟨by decide +kernel, by decide +kernel⟩, List.mem_of_getElem? (i := 1431) (by decide +kernel), List.mem_of_getElem? (i := 2012) (by decide +kernel), List.mem_of_getElem? (i := 2013) (by decide +kernel)⟩
theorem lw_p105 : lw_okq (⟨"LikenessPoundModel", "readOr", "()Z"⟩, 47) := ⟨⟨by decide +kernel, by decide +kernel⟩, List.mem_of_getElem? (i := 1431) (by decide +kernel), List.mem_of_getElem? (i := 2024) (by decide +kernel), List.mem_of_getElem? (i := 2025) (by decide +kernel)⟩
theorem lw_p106 : lw_okq (⟨"LikenessPoundModel", "readAnd", "()Z"⟩, 47) := ⟨⟨by decide +kernel, by decide +kernel⟩, List.mem_of_getElem? (i := 1431) (by decide +kernel), List.mem_of_getElem? (i := 2028) (by decide +kernel), List.mem_of_getElem? (i := 2029) (by decide +kernel)⟩
theorem lw_p107 : lw_okq (⟨"LikenessPoundModel", "readSaid", "()Z"⟩, 47) := ⟨⟨by decide +kernel, by decide +kernel⟩, List.mem_of_getElem? (i := 1431) (by decide +kernel), List.mem_of_getElem? (i := 2032) (by decide +kernel), List.mem_of_getElem? (i := 2033) (by decide +kernel)⟩
theorem lw_p108 : lw_okq (⟨"LikenessPoundModel", "readBracket", "()Z"⟩, 47) := ⟨⟨by decide +kernel, by decide +kernel⟩, List.mem_of_getElem? (i := 1431) (by decide +kernel), List.mem_of_getElem? (i := 2036) (by decide +kernel), List.mem_of_getElem? (i := 2037) (by decide +kernel)⟩
theorem lw_p109 : lw_okq (⟨"LikenessPoundModel", "readNot", "()Z"⟩, 47) := ⟨⟨by decide +kernel, by decide +kernel⟩, List.mem_of_getElem? (i := 1431) (by decide +kernel), List.mem_of_getElem? (i := 2040) (by decide +kernel), List.mem_of_getElem? (i := 2041) (by decide +kernel)⟩
theorem lw_p110 : lw_okq (⟨"LikenessPoundModel", "saysOne", "(IIII)I"⟩, 47) := ⟨⟨by decide +kernel, by decide +kernel⟩, List.mem_of_getElem? (i := 1431) (by decide +kernel), List.mem_of_getElem? (i := 2044) (by decide +kernel), List.mem_of_getElem? (i := 2045) (by decide +kernel)⟩
theorem lw_p111 : lw_okq (⟨"LikenessPoundModel", "readOf", "(I)Z"⟩, 47) := ⟨⟨by decide +kernel, by decide +kernel⟩, List.mem_of_getElem? (i := 1431) (by decide +kernel), List.mem_of_getElem? (i := 2048) (by decide +kernel), List.mem_of_getElem? (i := 2049) (by decide +kernel)⟩
def lw_privs_7 : List (MethodName × Nat) := [(⟨"LikenessPoundModel", "takeBack", "()V"⟩, 47), (⟨"LikenessPoundModel", "readBookLine", "()Z"⟩, 47), (⟨"LikenessPoundModel", "keep", "(IZ)Z"⟩, 47), (⟨"LikenessPoundModel", "readDoes", "(I)Z"⟩, 47), (⟨"LikenessPoundModel", "readDeedName", "()Z"⟩, 47), (⟨"LikenessPoundModel", "readNamed", "(II)Z"⟩, 47), (⟨"LikenessPoundModel", "readManName", "()Z"⟩, 47), (⟨"LikenessPoundModel", "goBy", "(I)I"⟩, 47), (⟨"LikenessPoundModel", "stay", "(Z)V"⟩, 47), (⟨"LikenessPoundModel", "readOr", "()Z"⟩, 47), (⟨"LikenessPoundModel", "readAnd", "()Z"⟩, 47), (⟨"LikenessPoundModel", "readSaid", "()Z"⟩, 47), (⟨"LikenessPoundModel", "readBracket", "()Z"⟩, 47), (⟨"LikenessPoundModel", "readNot", "()Z"⟩, 47), (⟨"LikenessPoundModel", "saysOne", "(IIII)I"⟩, 47), (⟨"LikenessPoundModel", "readOf", "(I)Z"⟩, 47)]
theorem lw_r7 : ∀ q ∈ lw_privs_7, lw_okq q := List.forall_mem_cons.mpr ⟨lw_p96, List.forall_mem_cons.mpr ⟨lw_p97, List.forall_mem_cons.mpr ⟨lw_p98, List.forall_mem_cons.mpr ⟨lw_p99, List.forall_mem_cons.mpr ⟨lw_p100, List.forall_mem_cons.mpr ⟨lw_p101, List.forall_mem_cons.mpr ⟨lw_p102, List.forall_mem_cons.mpr ⟨lw_p103, List.forall_mem_cons.mpr ⟨lw_p104, List.forall_mem_cons.mpr ⟨lw_p105, List.forall_mem_cons.mpr ⟨lw_p106, List.forall_mem_cons.mpr ⟨lw_p107, List.forall_mem_cons.mpr ⟨lw_p108, List.forall_mem_cons.mpr ⟨lw_p109, List.forall_mem_cons.mpr ⟨lw_p110, List.forall_mem_cons.mpr ⟨lw_p111, fun _ h => absurd h List.not_mem_nil⟩⟩⟩⟩⟩⟩⟩⟩⟩⟩⟩⟩⟩⟩⟩⟩
theorem lw_p112 : lw_okq (⟨"LikenessPoundModel", "readCompare", "(I)Z"⟩, 47) := ⟨⟨by decide +kernel, by decide +kernel⟩, List.mem_of_getElem? (i := 1431) (by decide +kernel), List.mem_of_getElem? (i := 2052) (by decide +kernel), List.mem_of_getElem? (i := 2053) (by decide +kernel)⟩
theorem lw_p113 : lw_okq (⟨"LikenessPoundModel", "holds", "(II)Z"⟩, 47) := ⟨⟨by decide +kernel, by decide +kernel⟩, List.mem_of_getElem? (i := 1431) (by decide +kernel), List.mem_of_getElem? (i := 2060) (by decide +kernel), List.mem_of_getElem? (i := 2061) (by decide +kernel)⟩
def lw_privs_8 : List (MethodName × Nat) := [(⟨"LikenessPoundModel", "readCompare", "(I)Z"⟩, 47), (⟨"LikenessPoundModel", "holds", "(II)Z"⟩, 47)]
theorem lw_r8 : ∀ q ∈ lw_privs_8, lw_okq q := List.forall_mem_cons.mpr ⟨lw_p112, List.forall_mem_cons.mpr ⟨lw_p113, fun _ h => absurd h List.not_mem_nil⟩⟩
def lw_privs : List (MethodName × Nat) := lw_privs_1 ++ (lw_privs_2 ++ (lw_privs_3 ++ (lw_privs_4 ++ (lw_privs_5 ++ (lw_privs_6 ++ (lw_privs_7 ++ (lw_privs_8)))))))
def lw_tbl : List Cond := k2_sels lw_privs ++ tables_1
theorem lw_privs_ok : ∀ q ∈ lw_privs, lw_okq q := by
  show ∀ q ∈ lw_privs_1 ++ (lw_privs_2 ++ (lw_privs_3 ++ (lw_privs_4 ++ (lw_privs_5 ++ (lw_privs_6 ++ (lw_privs_7 ++ (lw_privs_8))))))), lw_okq q
  exact List.forall_mem_append.mpr ⟨lw_r1, List.forall_mem_append.mpr ⟨lw_r2, List.forall_mem_append.mpr ⟨lw_r3, List.forall_mem_append.mpr ⟨lw_r4, List.forall_mem_append.mpr ⟨lw_r5, List.forall_mem_append.mpr ⟨lw_r6, List.forall_mem_append.mpr ⟨lw_r7, lw_r8⟩⟩⟩⟩⟩⟩⟩
end
section
/-! the words that every contract here is given: the good ones of the tables, all of them -/
def GW : List Cond := lw_tbl.filter goodWord
theorem gw_mem {w : Cond} (i : Nat) (h : lw_tbl[i]? = some w) (g : goodWord w = true) : w ∈ GW := List.mem_filter.mpr ⟨List.mem_of_getElem? h, g⟩
theorem gw_good {w : Cond} (h : w ∈ GW) : (w.onTables && w.keeps) = true ∨ ∃ ty, w = .arrayClass ty := good_of_word (List.mem_filter.mp h).2
theorem gw_sub {ws : List Cond} (ps : List Nat) (hp : ws = ps.filterMap (fun i => lw_tbl[i]?)) (h : ws.all goodWord = true) : ∀ w ∈ ws, w ∈ GW := by
  intro w hw
  have h1 := List.all_eq_true.mp h w hw
  rw [hp] at hw
  obtain ⟨i, -, hi⟩ := List.mem_filterMap.mp hw
  exact gw_mem i hi h1
abbrev wl (y : MethodName) (cc : ByteArray) (n : Nat) (r : Option FieldType) : List Cond := .code y cc n r :: GW
theorem gi_of {y : MethodName} {cc : ByteArray} {n : Nat} {r : Option FieldType} (h : Cond.code y cc n r ∈ GW) : GoodIn GW (wl y cc n r) := fun w hw => by
  rcases List.mem_cons.mp hw with rfl | hw
  · exact ⟨h, gw_good h⟩
  · exact ⟨hw, gw_good hw⟩
theorem gi_V {own C : String} {idx : Nat} {y : MethodName} {cc : ByteArray} {n : Nat} {r : Option FieldType} (h1 : Cond.methodLink own idx y ∈ GW) (h2 : Cond.instanceMethod y ∈ GW) (h3 : Cond.selects C y y ∈ GW) (h4 : Cond.initialized C ∈ GW) (h : Cond.code y cc n r ∈ GW) : GoodIn GW (wsV own idx C y (wl y cc n r)) := fun w hw => by
  rcases List.mem_append.mp hw with hw | hw
  · simp only [List.mem_cons, List.not_mem_nil, or_false] at hw
    rcases hw with rfl | rfl | rfl | rfl
    · exact ⟨h1, gw_good h1⟩
    · exact ⟨h2, gw_good h2⟩
    · exact ⟨h3, gw_good h3⟩
    · exact ⟨h4, gw_good h4⟩
  · exact gi_of h w hw
theorem gi_S {own : String} {idx : Nat} {y : MethodName} {cc : ByteArray} {n : Nat} {r : Option FieldType} (h1 : Cond.methodLink own idx y ∈ GW) (h2 : Cond.static y ∈ GW) (h3 : Cond.initialized y.cls ∈ GW) (h : Cond.code y cc n r ∈ GW) : GoodIn GW (va_wsS own idx y (wl y cc n r)) := fun w hw => by
  rcases List.mem_append.mp hw with hw | hw
  · simp only [List.mem_cons, List.not_mem_nil, or_false] at hw
    rcases hw with rfl | rfl | rfl
    · exact ⟨h1, gw_good h1⟩
    · exact ⟨h2, gw_good h2⟩
    · exact ⟨h3, gw_good h3⟩
  · exact gi_of h w hw
theorem gi_U {own : String} {idx : Nat} {y : MethodName} {cc : ByteArray} {n : Nat} {r : Option FieldType} (h1 : Cond.methodLink own idx y ∈ GW) (h2 : Cond.sameMethod y.cls y.cls y.name y.desc ∈ GW) (h3 : Cond.superclass own y.cls ∈ GW) (h4 : Cond.instanceMethod y ∈ GW) (h5 : Cond.initialized y.cls ∈ GW) (h : Cond.code y cc n r ∈ GW) : GoodIn GW (va_wsSU own idx y (wl y cc n r)) := fun w hw => by
  rcases List.mem_append.mp hw with hw | hw
  · simp only [List.mem_cons, List.not_mem_nil, or_false] at hw
    rcases hw with rfl | rfl | rfl | rfl | rfl
    · exact ⟨h1, gw_good h1⟩
    · exact ⟨h2, gw_good h2⟩
    · exact ⟨h3, gw_good h3⟩
    · exact ⟨h4, gw_good h4⟩
    · exact ⟨h5, gw_good h5⟩
  · exact gi_of h w hw
/-! the array classes, by their places -/
abbrev TY (cy : Nat → ClassId) : List (ClassId × FieldType) := [(cy 0, .int), (cy 1, .long), (cy 2, .boolean), (cy 3, .byte), (cy 4, .object "LikenessPound$Life"), (cy 5, .object "LikenessPound$World")]
theorem ra_one {U : State} {a b : ClassId} {ty : FieldType} (h1 : va_RA U a ty) (h2 : va_RA U b ty) : a = b := by
  cases ty with
  | object C =>
    obtain ⟨_, _, -, -, -, e1⟩ := h1
    obtain ⟨_, _, -, -, -, e2⟩ := h2
    exact Option.some.inj (e1.symm.trans e2)
  | _ => exact Option.some.inj (Eq.trans (Eq.symm h1) h2)
theorem ty_prim {s : State} {args : Array Value} {ty : FieldType} (h : (Cond.arrayClass ty).before args s = true) (hn : ∀ C, ty ≠ .object C) : ∃ cA : ClassId, ArrOfT s cA ty ∧ va_RA s cA ty := by
  obtain ⟨cA, kA, comp, h1, h2, h3⟩ := Cond.arrayClass_spec h
  refine ⟨cA, fun n z => ⟨fun k h => (by cases h), kA, h2, comp, h3⟩, ?_⟩
  cases ty with
  | object C => exact absurd rfl (hn C)
  | _ => exact h1
theorem ty_refs {s : State} {args : Array Value} {C : String} (h : (Cond.arrayOver (.object C)).before args s = true) : ∃ cA : ClassId, ArrOfT s cA (.object C) ∧ va_RA s cA (.object C) := by
  obtain ⟨comp, cA, kA, h1, -, h2, h3, h4⟩ := Cond.arrayOver_spec h
  exact ⟨cA, fun n z => ⟨fun k h => (by cases h), kA, h2, comp, h3⟩, kA, comp, h2, h3, h1, h4⟩
/-! a contract's start and end -/
abbrev Pw (D : va_G) (cl : List vw_C) (cy : Nat → ClassId) (ws : va_W) (sz : Nat) (av : List Value) (E : State → Prop) : Array Value → State → Prop := va_Pc av (fun U => U.heap.size = sz ∧ va_P D cl ws U.heap ∧ va_K D cl (TY cy) U ∧ va_D (fun _ => True) ws ∧ E U)
abbrev Bw (D : va_G) (cl : List vw_C) (A : Nat → Prop) (ws : va_W) (t : State) : Prop := va_P D cl ws t.heap ∧ va_D A ws
abbrev Pr (D : va_G) (cl : List vw_C) (cy : Nat → ClassId) (ws : va_W) (av : List Value) : Array Value → State → Prop := va_Pc av (fun U => va_P D cl ws U.heap ∧ va_K D cl (TY cy) U)
abbrev nE : State → Prop := fun _ => True
/-- what a fact of the surroundings must bear: a call, and a warmer machine -/
def EnvOk (E : State → Prop) : Prop := (∀ (a : Array Value) (U : State) (g : JFrame) (mk : MethodId), E U → E (U.calling g mk a)) ∧ ∀ (s U : State), s.WarmedH U.vm → s.heap.size ≤ U.heap.size → (∀ q : Nat, q < s.heap.size → U.heap[q]? = s.heap[q]?) → E s → E U
theorem blind_w {D : va_G} {cl : List vw_C} {cy : Nat → ClassId} {ws : va_W} {sz : Nat} {av : List Value} {E : State → Prop} (hE : ∀ (a : Array Value) (U : State) (g : JFrame) (mk : MethodId), E U → E (U.calling g mk a)) : FrameBlind (Pw D cl cy ws sz av E) := fun a U g mk q => by
  obtain ⟨q0, q1, qP, qK, qD, qE⟩ := q
  exact ⟨q0, q1, qP, va_K.moved (u := U) (U := U.calling g mk a) (Vm.Alike.refl U.vm) qK, qD, hE a U g mk qE⟩
theorem blind_r {D : va_G} {cl : List vw_C} {cy : Nat → ClassId} {ws : va_W} {av : List Value} : FrameBlind (Pr D cl cy ws av) := fun a U g mk q => by
  obtain ⟨q0, qP, qK⟩ := q
  exact ⟨q0, qP, va_K.moved (u := U) (U := U.calling g mk a) (Vm.Alike.refl U.vm) qK⟩
/-- a method whose cells may change -/
theorem mw {l : Launch} {y : MethodName} {cc : ByteArray} {n : Nat} {r : Option FieldType} {rm : Room} {D : va_G} {cl : List vw_C} {cy : Nat → ClassId} {ws : va_W} {sz : Nat} {av : List Value} {E : State → Prop} {Qc : (Nat → Prop) → Array Value → State → Outcome → State → Prop} {mc ms : Nat} (own : String) (ho : y.cls = own) (hy : plainName y.cls = true) (hn : (lg_sl av).length ≤ n)
    (body : ∀ (p : Program) (e : Env) (s : State) (m : MethodId) (below : List Frame) (meth : Method) (c : Code) (A : Nat → Prop), p.tables.exec = Jvm.exec → c.code = cc → meth.sig.returnType = r → meth.locks = false → ∀ av9 : Array Value, av9 = av.toArray → (∀ w ∈ GW, w.before av9 s = true) → s.vm.findClass own = some m.cls → meth.name = y.name → c.maxLocals = n → va_K D cl (TY cy) s → va_P D cl ws s.heap → va_D A ws → (∀ q : Nat, s.heap.size ≤ q → A q) → va_S A s.heap s.heap [] → E s → (A = va_A ws s.heap.size) → ∀ Q9 : State → Prop, Q9 = MQ below (Qc A) av9 s mc ms A → ∀ ls : Array Slot, lv_has ls n (lv_args 0 av) → W p l e rm s m av9 below meth c s.heap [] 0 0 Q9 (F0 m 0 ls [])) :
    Met l y (wl y cc n r) rm (Pw D cl cy ws sz av E) (Qc (va_A ws sz)) mc ms (va_A ws sz) := by
  refine Met.ofW (cc := cc) (maxL := n) (ret := r) hy rfl ?_
  intro p e s m args below meth c s₁ B hml hv
  obtain ⟨rfl, hsz, hP, hK, hD0, hE⟩ := hv
  have hts := atoms_spec (ws := wl y cc n r) B.pre
  have hown : s.vm.findClass y.cls = some m.cls := findClass_of_methodNamed B.named
  rw [ho] at hown
  subst hsz
  have hD := hD0.self (sz := s.heap.size)
  rw [lg_entry_eq]
  exact body p e s m below meth c (va_A ws s.heap.size) B.exec B.bytes B.returns B.notSynchronized _ rfl (fun w hw => hts w (List.mem_cons_of_mem _ hw)) hown (name_of_methodNamed B.named B.method).1 hml hK hP hD (fun q h => Or.inr h) va_S.rf hE rfl _ rfl _ (lv_entry av hn)
/-- a method that only reads -/
theorem mr {l : Launch} {y : MethodName} {cc : ByteArray} {n : Nat} {r : Option FieldType} {rm : Room} {D : va_G} {cl : List vw_C} {cy : Nat → ClassId} {ws : va_W} {av : List Value} {Qc : Array Value → State → Outcome → State → Prop} {mc ms : Nat} (own : String) (ho : y.cls = own) (hy : plainName y.cls = true) (hn : (lg_sl av).length ≤ n)
    (body : ∀ (p : Program) (e : Env) (s : State) (m : MethodId) (below : List Frame) (meth : Method) (c : Code), p.tables.exec = Jvm.exec → c.code = cc → meth.sig.returnType = r → meth.locks = false → ∀ av9 : Array Value, av9 = av.toArray → (∀ w ∈ GW, w.before av9 s = true) → s.vm.findClass own = some m.cls → c.maxLocals = n → va_K D cl (TY cy) s → va_P D cl ws s.heap → va_S (fun _ => False) s.heap s.heap [] → ∀ Q9 : State → Prop, Q9 = MQ below Qc av9 s mc ms (fun _ => False) → ∀ ls : Array Slot, lv_has ls n (lv_args 0 av) → W p l e rm s m av9 below meth c s.heap [] 0 0 Q9 (F0 m 0 ls [])) :
    Met l y (wl y cc n r) rm (Pr D cl cy ws av) Qc mc ms (fun _ => False) := by
  refine Met.ofW (cc := cc) (maxL := n) (ret := r) hy rfl ?_
  intro p e s m args below meth c s₁ B hml hv
  obtain ⟨rfl, hP, hK⟩ := hv
  have hts := atoms_spec (ws := wl y cc n r) B.pre
  have hown : s.vm.findClass y.cls = some m.cls := findClass_of_methodNamed B.named
  rw [ho] at hown
  rw [lg_entry_eq]
  exact body p e s m below meth c B.exec B.bytes B.returns B.notSynchronized _ rfl (fun w hw => hts w (List.mem_cons_of_mem _ hw)) hown hml hK hP va_S.rf _ rfl _ (lv_entry av hn)
/-! the ends -/
abbrev Qi {S : Type} (D : va_G) (cl : List vw_C) (post : Int32 → S → Prop) (wo : S → va_W) (A : Nat → Prop) : Array Value → State → Outcome → State → Prop := va_Qi post (fun u t => Bw D cl A (wo u) t) A
abbrev Ql {S : Type} (D : va_G) (cl : List vw_C) (post : Int64 → S → Prop) (wo : S → va_W) (A : Nat → Prop) : Array Value → State → Outcome → State → Prop := va_Ql post (fun u t => Bw D cl A (wo u) t) A
abbrev Qv {S : Type} (D : va_G) (cl : List vw_C) (post : S → Prop) (wo : S → va_W) (A : Nat → Prop) : Array Value → State → Outcome → State → Prop := va_Qv post (fun u t => Bw D cl A (wo u) t) A
abbrev Ri (post : Int32 → Prop) : Array Value → State → Outcome → State → Prop := va_Qi (fun r (_ : Unit) => post r) (fun _ _ => True) (fun _ => False)
abbrev Rl (post : Int64 → Prop) : Array Value → State → Outcome → State → Prop := va_Ql (fun r (_ : Unit) => post r) (fun _ _ => True) (fun _ => False)
section RT
variable {p : Program} {l : Launch} {e : Env} {R : Room} {s : State} {m : MethodId} {args : Array Value} {below : List Frame} {meth : Method} {c : Code} {H : Heap} {locs : List Loc} {cells slots : Nat}
variable {cc : ByteArray} {pc : Nat} {ls : Array Slot} {D : va_G} {cl : List vw_C} {A : Nat → Prop}
theorem re_i {S : Type} {post : Int32 → S → Prop} {wo : S → va_W} {v : Int32} (u : S) (hx : p.tables.exec = Jvm.exec) (hb : c.code = cc) (hr : meth.sig.returnType = some .int) (hk : meth.locks = false) (hp : post v u) (hP : va_P D cl (wo u) H) (hD : va_D A (wo u)) (hS : va_S A s.heap H locs) (hdg : decode cc pc = .ok (.ireturn, 1)) : W p l e R s m args below meth c H locs cells slots (MQ below (Qi D cl post wo A) args s cells slots A) (F0 m pc ls [.int v]) :=
  W.iret (v := v) hx hb hr (fun t ht hW => ⟨⟨v, u, rfl, hp, by rw [ht]; exact hP, hD⟩, hS.F ht⟩) hS.2.2 hdg
theorem re_z {S : Type} {post : Int32 → S → Prop} {wo : S → va_W} {v : Int32} (u : S) (hx : p.tables.exec = Jvm.exec) (hb : c.code = cc) (hr : meth.sig.returnType = some .boolean) (hk : meth.locks = false) (hz : v = 0 ∨ v = 1) (hp : post v u) (hP : va_P D cl (wo u) H) (hD : va_D A (wo u)) (hS : va_S A s.heap H locs) (hdg : decode cc pc = .ok (.ireturn, 1)) : W p l e R s m args below meth c H locs cells slots (MQ below (Qi D cl post wo A) args s cells slots A) (F0 m pc ls [.int v]) :=
  W.zret (v := v) hx hb hr (by rcases hz with rfl | rfl <;> rfl) (fun t ht hW => ⟨⟨v, u, rfl, hp, by rw [ht]; exact hP, hD⟩, hS.F ht⟩) hS.2.2 hdg
theorem re_l {S : Type} {post : Int64 → S → Prop} {wo : S → va_W} {v : Int64} (u : S) (hx : p.tables.exec = Jvm.exec) (hb : c.code = cc) (hr : meth.sig.returnType = some .long) (hk : meth.locks = false) (hp : post v u) (hP : va_P D cl (wo u) H) (hD : va_D A (wo u)) (hS : va_S A s.heap H locs) (hdg : decode cc pc = .ok (.lreturn, 1)) : W p l e R s m args below meth c H locs cells slots (MQ below (Ql D cl post wo A) args s cells slots A) (F0 m pc ls [.long v]) :=
  W.lret (v := v) hx hb hr (fun t ht hW => ⟨⟨v, u, rfl, hp, by rw [ht]; exact hP, hD⟩, hS.F ht⟩) hS.2.2 hdg
theorem re_v {S : Type} {post : S → Prop} {wo : S → va_W} (u : S) (hx : p.tables.exec = Jvm.exec) (hb : c.code = cc) (hr : meth.sig.returnType = none) (hk : meth.locks = false) (hp : post u) (hP : va_P D cl (wo u) H) (hD : va_D A (wo u)) (hS : va_S A s.heap H locs) (hdg : decode cc pc = .ok (.return_, 1)) : W p l e R s m args below meth c H locs cells slots (MQ below (Qv D cl post wo A) args s cells slots A) (F0 m pc ls []) :=
  W.vret hx hb hr (fun t ht hW => ⟨⟨u, rfl, hp, by rw [ht]; exact hP, hD⟩, hS.F ht⟩) hS.2.2 hdg
theorem rr_i {post : Int32 → Prop} {v : Int32} (hx : p.tables.exec = Jvm.exec) (hb : c.code = cc) (hr : meth.sig.returnType = some .int) (hk : meth.locks = false) (hp : post v) (hS : va_S (fun _ => False) s.heap H locs) (hdg : decode cc pc = .ok (.ireturn, 1)) : W p l e R s m args below meth c H locs cells slots (MQ below (Ri post) args s cells slots (fun _ => False)) (F0 m pc ls [.int v]) :=
  W.iret (v := v) hx hb hr (fun t ht hW => ⟨⟨v, (), rfl, hp, trivial⟩, hS.F ht⟩) hS.2.2 hdg
theorem rr_z {post : Int32 → Prop} {v : Int32} (hx : p.tables.exec = Jvm.exec) (hb : c.code = cc) (hr : meth.sig.returnType = some .boolean) (hk : meth.locks = false) (hz : v = 0 ∨ v = 1) (hp : post v) (hS : va_S (fun _ => False) s.heap H locs) (hdg : decode cc pc = .ok (.ireturn, 1)) : W p l e R s m args below meth c H locs cells slots (MQ below (Ri post) args s cells slots (fun _ => False)) (F0 m pc ls [.int v]) :=
  W.zret (v := v) hx hb hr (by rcases hz with rfl | rfl <;> rfl) (fun t ht hW => ⟨⟨v, (), rfl, hp, trivial⟩, hS.F ht⟩) hS.2.2 hdg
theorem rr_l {post : Int64 → Prop} {v : Int64} (hx : p.tables.exec = Jvm.exec) (hb : c.code = cc) (hr : meth.sig.returnType = some .long) (hk : meth.locks = false) (hp : post v) (hS : va_S (fun _ => False) s.heap H locs) (hdg : decode cc pc = .ok (.lreturn, 1)) : W p l e R s m args below meth c H locs cells slots (MQ below (Rl post) args s cells slots (fun _ => False)) (F0 m pc ls [.long v]) :=
  W.lret (v := v) hx hb hr (fun t ht hW => ⟨⟨v, (), rfl, hp, trivial⟩, hS.F ht⟩) hS.2.2 hdg
end RT
section ST
variable {p : Program} {l : Launch} {e : Env} {R : Room} {s : State} {m : MethodId} {args : Array Value} {below : List Frame} {meth : Method} {c : Code} {H : Heap} {locs : List Loc} {cells slots : Nat} {Q : State → Prop}
variable {cc : ByteArray} {pc : Nat} {ls : Array Slot} {rest : List Value} {D : va_G} {cl : List vw_C} {cy : Nat → ClassId} {A : Nat → Prop} {a : Nat} {ws : va_W} {H0 : Heap}
/-- the top of the stack by another name -/
theorem as_i {x : Int32} (y : Int32) (h : x = y) (k : W p l e R s m args below meth c H locs cells slots Q (F0 m pc ls (.int y :: rest))) : W p l e R s m args below meth c H locs cells slots Q (F0 m pc ls (.int x :: rest)) := by
  subst h; exact k
theorem as_l {x : Int64} (y : Int64) (h : x = y) (k : W p l e R s m args below meth c H locs cells slots Q (F0 m pc ls (.long y :: rest))) : W p l e R s m args below meth c H locs cells slots Q (F0 m pc ls (.long x :: rest)) := by
  subst h; exact k
/-- new arrays; the classes stay as they are listed -/
theorem na_x (hx : p.tables.exec = Jvm.exec) (hb : c.code = cc) {atype : ArrayType} (harr : (Cond.arrayClass (newarray.typeOf atype)).before args s = true) {ty : FieldType} (hty : newarray.typeOf atype = ty) (t0 : Nat) {cT : ClassId} (ht : (TY cy)[t0]? = some (cT, ty)) (hK : va_K D cl (TY cy) s) (hP : va_P D cl ws H) (hD : va_D A ws) (hS : va_S A H0 H locs) (hA : ∀ q : Nat, H0.size ≤ q → A q)
    {n : Int32} {N' : Nat} {a0 : vp_A} (ha : ∀ cA : ClassId, vp_cell cA a0 = arrV cA N' (fun _ => defaultValue ty)) (hn : ¬ n < 0) (hN : n.toNatClampNeg = N') (hbytes : N' * componentBytes ty ≤ 536870912) (hcells : cells + 1 ≤ R.cells) (hslots : slots + N' ≤ R.slots) (hdg : decode cc pc = .ok (.newarray atype, 2))
    (kk : ∀ (q : Nat) (H1 : Heap), va_P D cl (ws ++ [(q, .inl (cT, a0))]) H1 → va_D A (ws ++ [(q, .inl (cT, a0))]) → va_S A H0 H1 locs → W p l e R s m args below meth c H1 locs (cells + 1) (slots + N') Q (F0 m (pc + 2) ls (.ref q :: rest))) : W p l e R s m args below meth c H locs cells slots Q (F0 m pc ls (.int n :: rest)) := by
  refine va_newa hx hb harr hty hK hP hD hS hA ha hn hN hbytes hcells hslots hdg (fun q cA H1 hK1 hP1 hD1 hS1 => ?_)
  have e1 : cA = cT := ra_one (hK1.2 (TY cy).length (cA, ty) (by simp)).2 (hK.2 t0 (cT, ty) ht).2
  subst e1
  exact kk q H1 hP1 hD1 hS1
theorem na_q (hx : p.tables.exec = Jvm.exec) (hb : c.code = cc) {own C : String} {index : Nat} (hown : s.vm.findClass own = some m.cls) (hclink : (Cond.classLink own index C).before args s = true) (hover : va_AO C s) (t0 : Nat) {cT : ClassId} (ht : (TY cy)[t0]? = some (cT, .object C)) (hK : va_K D cl (TY cy) s) (hP : va_P D cl ws H) (hD : va_D A ws) (hS : va_S A H0 H locs) (hA : ∀ q : Nat, H0.size ≤ q → A q)
    {n : Int32} {N' : Nat} (hn : ¬ n < 0) (hN : n.toNatClampNeg = N') (hbytes : N' * 4 ≤ 536870912) (hcells : cells + 1 ≤ R.cells) (hslots : slots + N' ≤ R.slots) (hdg : decode cc pc = .ok (.anewarray index, 3))
    (kk : ∀ (q : Nat) (H1 : Heap), va_P D cl (ws ++ [(q, .inl (cT, N', .inr (.inr (.inr (.inr (fun _ => none))))))]) H1 → va_D A (ws ++ [(q, .inl (cT, N', .inr (.inr (.inr (.inr (fun _ => none))))))]) → va_S A H0 H1 locs → W p l e R s m args below meth c H1 locs (cells + 1) (slots + N') Q (F0 m (pc + 3) ls (.ref q :: rest))) : W p l e R s m args below meth c H locs cells slots Q (F0 m pc ls (.int n :: rest)) := by
  refine va_newq hx hb hown hclink hover hK hP hD hS hA hn hN hbytes hcells hslots hdg (fun q cA H1 hK1 hP1 hD1 hS1 => ?_)
  have e1 : cA = cT := ra_one (hK1.2 (TY cy).length (cA, .object C) (by simp)).2 (hK.2 t0 (cT, .object C) ht).2
  subst e1
  exact kk q H1 hP1 hD1 hS1
end ST
end
section
theorem fm_of {α β : Type} {f : α → Option β} : ∀ {l : List α} {w : List β}, l.map f = w.map some → l.filterMap f = w
  | [], [], _ => rfl
  | [], _ :: _, h => by simp at h
  | _ :: _, [], h => by simp at h
  | a :: l, b :: w, h => by
    simp only [List.map_cons, List.cons.injEq] at h
    rw [List.filterMap_cons, h.1, fm_of h.2]
section CL
variable {p : Program} {l : Launch} {e : Env} {R : Room} {s : State} {m : MethodId} {args : Array Value} {below : List Frame} {meth : Method} {c : Code} {H : Heap} {locs : List Loc} {cells slots : Nat} {Q : State → Prop}
variable {cc bytes : ByteArray} {pc nL maxL idx n mc ms ci : Nat} {ls : Array Slot} {rest As st0 : List Value} {D : va_G} {cl : List vw_C} {cy : Nat → ClassId} {A : Nat → Prop} {b : Nat} {ws wc wr : va_W} {H0 : Heap} {own C : String} {y : MethodName} {ret : Option FieldType} {wsy : List Cond} {rm : Room} {E : State → Prop} {Qc : Array Value → State → Outcome → State → Prop} {free : Addr → Prop}
theorem pre_w (hPc : va_P D cl wc H) (hDc : va_D A wc) (hK : va_K D cl (TY cy) s) (hE : ∀ U : State, U.heap = H → s.WarmedH U.vm → E U) {av : List Value} : ∀ U : State, U.heap = H → s.WarmedH U.vm → Pw D cl cy wc H.size av E av.toArray U :=
  fun U hU hW => ⟨rfl, by rw [hU], by rw [hU]; exact hPc, va_K.moved hW.alike hK, hDc.weaken (fun _ _ _ _ => trivial), hE U hU hW⟩
theorem pre_r (hPc : va_P D cl wc H) (hK : va_K D cl (TY cy) s) {av : List Value} : ∀ U : State, U.heap = H → s.WarmedH U.vm → Pr D cl cy wc av av.toArray U :=
  fun U hU hW => ⟨rfl, by rw [hU]; exact hPc, va_K.moved hW.alike hK⟩
/-- a virtual call over the cells wc -/
theorem rV (Sx : CallFix p m c cc nL s args GW own) (hM : Met l y wsy rm (Pw D cl cy wc H.size (.ref b :: As) E) Qc mc ms free) (cw : CallW R s args own C idx y bytes maxL ret wsy rm mc ms n) (hP : va_P D cl ws H) (hD : va_D A ws) (hK : va_K D cl (TY cy) s) (isC : List Nat) (hC : isC.map (fun i => ws[i]?) = wc.map some) (hnC : va_nd isC = true) {T : u_T} {N : Nat} {fs : List Value} (hrc : cl[ci]? = some (C, T, N)) (hre : wc[0]? = some (b, .inr (ci, fs)))
    (hbl : ∀ (a : Array Value) (U : State) (g : JFrame) (mk : MethodId), E U → E (U.calling g mk a)) (hE : ∀ U : State, U.heap = H → s.WarmedH U.vm → E U) (hn : As.length = n) (hsize : ls.size = nL) (hst : st0 = As.reverse ++ .ref b :: rest) (hW : (rest.map fun v => v.category).sum ≤ 8) (hdg : decode cc pc = .ok (.invokevirtual idx, 3)) (hf : cells + mc ≤ R.cells ∧ slots + ms ≤ R.slots) :
    va_Run p l e R s m args below meth c H locs cells slots mc ms (F0 m pc ls st0) rest (Qc (Value.ref b :: As).toArray) free := by
  have hPc := hP.sub isC (fm_of hC)
  exact va_runV Sx hM cw ⟨blind_w hbl, va_recv (q := (C, T, N)) hK hPc hrc hre, pre_w hPc (hD.sub isC hnC hC) hK hE⟩ rfl hn hsize hst (lv_room hW) hdg hf
/-- a virtual call that only reads -/
theorem rVr (Sx : CallFix p m c cc nL s args GW own) (hM : Met l y wsy rm (Pr D cl cy wc (.ref b :: As)) Qc mc ms free) (cw : CallW R s args own C idx y bytes maxL ret wsy rm mc ms n) (hP : va_P D cl ws H) (hK : va_K D cl (TY cy) s) (isC : List Nat) (hC : isC.filterMap (fun i => ws[i]?) = wc) {T : u_T} {N : Nat} {fs : List Value} (hrc : cl[ci]? = some (C, T, N)) (hre : wc[0]? = some (b, .inr (ci, fs)))
    (hn : As.length = n) (hsize : ls.size = nL) (hst : st0 = As.reverse ++ .ref b :: rest) (hW : (rest.map fun v => v.category).sum ≤ 8) (hdg : decode cc pc = .ok (.invokevirtual idx, 3)) (hf : cells + mc ≤ R.cells ∧ slots + ms ≤ R.slots) :
    va_Run p l e R s m args below meth c H locs cells slots mc ms (F0 m pc ls st0) rest (Qc (Value.ref b :: As).toArray) free := by
  have hPc := hP.sub isC hC
  exact va_runV Sx hM cw ⟨blind_r, va_recv (q := (C, T, N)) hK hPc hrc hre, pre_r hPc hK⟩ rfl hn hsize hst (lv_room hW) hdg hf
/-- static calls -/
theorem rS (Sx : CallFix p m c cc nL s args GW own) (hM : Met l y wsy rm (Pw D cl cy wc H.size As E) Qc mc ms free) (cw : CallB R s args own idx y bytes maxL ret wsy rm mc ms n ∧ (Cond.static y).before args s = true) (hP : va_P D cl ws H) (hD : va_D A ws) (hK : va_K D cl (TY cy) s) (isC : List Nat) (hC : isC.map (fun i => ws[i]?) = wc.map some) (hnC : va_nd isC = true)
    (hbl : ∀ (a : Array Value) (U : State) (g : JFrame) (mk : MethodId), E U → E (U.calling g mk a)) (hE : ∀ U : State, U.heap = H → s.WarmedH U.vm → E U) (hn : As.length = n) (hsize : ls.size = nL) (hst : st0 = As.reverse ++ rest) (hW : (rest.map fun v => v.category).sum ≤ 8) (hdg : decode cc pc = .ok (.invokestatic idx, 3)) (hf : cells + mc ≤ R.cells ∧ slots + ms ≤ R.slots) :
    va_Run p l e R s m args below meth c H locs cells slots mc ms (F0 m pc ls st0) rest (Qc As.toArray) free := by
  have hPc := hP.sub isC (fm_of hC)
  exact va_runS Sx hM cw ⟨blind_w hbl, pre_w hPc (hD.sub isC hnC hC) hK hE⟩ rfl hn hsize hst (lv_room hW) hdg hf
theorem rSr (Sx : CallFix p m c cc nL s args GW own) (hM : Met l y wsy rm (Pr D cl cy wc As) Qc mc ms free) (cw : CallB R s args own idx y bytes maxL ret wsy rm mc ms n ∧ (Cond.static y).before args s = true) (hP : va_P D cl ws H) (hK : va_K D cl (TY cy) s) (isC : List Nat) (hC : isC.filterMap (fun i => ws[i]?) = wc)
    (hn : As.length = n) (hsize : ls.size = nL) (hst : st0 = As.reverse ++ rest) (hW : (rest.map fun v => v.category).sum ≤ 8) (hdg : decode cc pc = .ok (.invokestatic idx, 3)) (hf : cells + mc ≤ R.cells ∧ slots + ms ≤ R.slots) :
    va_Run p l e R s m args below meth c H locs cells slots mc ms (F0 m pc ls st0) rest (Qc As.toArray) free := by
  have hPc := hP.sub isC hC
  exact va_runS Sx hM cw ⟨blind_r, pre_r hPc hK⟩ rfl hn hsize hst (lv_room hW) hdg hf
/-- constructors -/
theorem rI (Sx : CallFix p m c cc nL s args GW own) (hM : Met l y wsy rm (Pw D cl cy wc H.size (.ref b :: As) E) Qc mc ms free) (cw : CallB R s args own idx y bytes maxL none wsy rm mc ms n ∧ y.name = "<init>" ∧ (Cond.instanceMethod y).before args s = true) (hP : va_P D cl ws H) (hD : va_D A ws) (hK : va_K D cl (TY cy) s) (isC : List Nat) (hC : isC.map (fun i => ws[i]?) = wc.map some) (hnC : va_nd isC = true)
    (hbl : ∀ (a : Array Value) (U : State) (g : JFrame) (mk : MethodId), E U → E (U.calling g mk a)) (hE : ∀ U : State, U.heap = H → s.WarmedH U.vm → E U) (hn : As.length = n) (hsize : ls.size = nL) (hst : st0 = As.reverse ++ .ref b :: rest) (hW : (rest.map fun v => v.category).sum ≤ 8) (hdg : decode cc pc = .ok (.invokespecial idx, 3)) (hf : cells + mc ≤ R.cells ∧ slots + ms ≤ R.slots) :
    va_Run p l e R s m args below meth c H locs cells slots mc ms (F0 m pc ls st0) rest (Qc (Value.ref b :: As).toArray) free := by
  have hPc := hP.sub isC (fm_of hC)
  exact va_runI Sx hM cw ⟨blind_w hbl, pre_w hPc (hD.sub isC hnC hC) hK hE⟩ rfl hn hsize hst (lv_room hW) hdg hf
theorem rN {host : String} (Sx : CallFix p m c cc nL s args GW own) (hM : Met l y wsy rm (Pw D cl cy wc H.size (.ref b :: As) E) Qc mc ms free) (cw : va_CN R s args own idx y host bytes maxL none wsy rm mc ms n ∧ y.name = "<init>" ∧ (Cond.instanceMethod y).before args s = true) (hP : va_P D cl ws H) (hD : va_D A ws) (hK : va_K D cl (TY cy) s) (isC : List Nat) (hC : isC.map (fun i => ws[i]?) = wc.map some) (hnC : va_nd isC = true)
    (hbl : ∀ (a : Array Value) (U : State) (g : JFrame) (mk : MethodId), E U → E (U.calling g mk a)) (hE : ∀ U : State, U.heap = H → s.WarmedH U.vm → E U) (hn : As.length = n) (hsize : ls.size = nL) (hst : st0 = As.reverse ++ .ref b :: rest) (hW : (rest.map fun v => v.category).sum ≤ 8) (hdg : decode cc pc = .ok (.invokespecial idx, 3)) (hf : cells + mc ≤ R.cells ∧ slots + ms ≤ R.slots) :
    va_Run p l e R s m args below meth c H locs cells slots mc ms (F0 m pc ls st0) rest (Qc (Value.ref b :: As).toArray) free := by
  have hPc := hP.sub isC (fm_of hC)
  exact va_runIN Sx hM cw ⟨blind_w hbl, pre_w hPc (hD.sub isC hnC hC) hK hE⟩ rfl hn hsize hst (lv_room hW) hdg hf
/-- a call of the method above, by invokespecial, that only reads -/
theorem rUr (Sx : CallFix p m c cc nL s args GW own) (hM : Met l y wsy rm (Pr D cl cy wc (.ref b :: As)) Qc mc ms free) (cw : va_CS R s args own idx y bytes maxL ret wsy rm mc ms n) (hP : va_P D cl ws H) (hK : va_K D cl (TY cy) s) (isC : List Nat) (hC : isC.filterMap (fun i => ws[i]?) = wc) {T : u_T} {N : Nat} {fs : List Value} (hrc : cl[ci]? = some (C, T, N)) (hre : wc[0]? = some (b, .inr (ci, fs)))
    (hn : As.length = n) (hsize : ls.size = nL) (hst : st0 = As.reverse ++ .ref b :: rest) (hW : (rest.map fun v => v.category).sum ≤ 8) (hdg : decode cc pc = .ok (.invokespecial idx, 3)) (hf : cells + mc ≤ R.cells ∧ slots + ms ≤ R.slots) :
    va_Run p l e R s m args below meth c H locs cells slots mc ms (F0 m pc ls st0) rest (Qc (Value.ref b :: As).toArray) free := by
  have hPc := hP.sub isC hC
  exact va_runSU (hK.1 ci _ hrc).2 Sx hM cw ⟨blind_r, va_recv (q := (C, T, N)) hK hPc hrc hre, pre_r hPc hK⟩ rfl hn hsize hst (lv_room hW) hdg hf
/-- behind a call: the callee's cells as they are now beside the others -/
theorem jn_i {S : Type} {post : Int32 → S → Prop} {wo : S → va_W} {a : Array Value} (hr : va_Run p l e R s m args below meth c H locs cells slots mc ms (F0 m pc ls st0) rest (Qi D cl post wo (va_A wc H.size) a) (va_A wc H.size)) (hP : va_P D cl ws H) (hD : va_D A ws) (hS : va_S A H0 H locs) (hA : ∀ q : Nat, H0.size ≤ q → A q) (isC isR : List Nat) (hC : isC.map (fun i => ws[i]?) = wc.map some) (hR : isR.map (fun i => ws[i]?) = wr.map some) (hnR : va_nd isR = true) (hdis : ∀ i ∈ isR, i ∉ isC)
    (kk : ∀ (r : Int32) (u : S) (H1 : Heap) (locs1 : List Loc), post r u → va_P D cl (wr ++ wo u) H1 → va_D A (wr ++ wo u) → va_S A H0 H1 locs1 → W p l e R s m args below meth c H1 locs1 (cells + mc) (slots + ms) Q (F0 m (pc + 3) ls (.int r :: rest))) : W p l e R s m args below meth c H locs cells slots Q (F0 m pc ls st0) := by
  have hFc := va_free hD hS hA isC hC
  refine va_calli hr hS (fun q _ h => hFc q h) hFc (fun r u t H1 locs1 ht hvm hw hB hz1 hk1 hS1 => ?_)
  obtain ⟨hP1, hD1⟩ := hB
  rw [ht] at hP1
  obtain ⟨hP2, hD2⟩ := va_join hP hD isC isR hC hR hnR hdis hk1 hFc hP1 hD1
  exact kk r u H1 locs1 hw hP2 hD2 hS1
theorem jn_l {S : Type} {post : Int64 → S → Prop} {wo : S → va_W} {a : Array Value} (hr : va_Run p l e R s m args below meth c H locs cells slots mc ms (F0 m pc ls st0) rest (Ql D cl post wo (va_A wc H.size) a) (va_A wc H.size)) (hP : va_P D cl ws H) (hD : va_D A ws) (hS : va_S A H0 H locs) (hA : ∀ q : Nat, H0.size ≤ q → A q) (isC isR : List Nat) (hC : isC.map (fun i => ws[i]?) = wc.map some) (hR : isR.map (fun i => ws[i]?) = wr.map some) (hnR : va_nd isR = true) (hdis : ∀ i ∈ isR, i ∉ isC)
    (kk : ∀ (r : Int64) (u : S) (H1 : Heap) (locs1 : List Loc), post r u → va_P D cl (wr ++ wo u) H1 → va_D A (wr ++ wo u) → va_S A H0 H1 locs1 → W p l e R s m args below meth c H1 locs1 (cells + mc) (slots + ms) Q (F0 m (pc + 3) ls (.long r :: rest))) : W p l e R s m args below meth c H locs cells slots Q (F0 m pc ls st0) := by
  have hFc := va_free hD hS hA isC hC
  refine va_calll hr hS (fun q _ h => hFc q h) hFc (fun r u t H1 locs1 ht hvm hw hB hz1 hk1 hS1 => ?_)
  obtain ⟨hP1, hD1⟩ := hB
  rw [ht] at hP1
  obtain ⟨hP2, hD2⟩ := va_join hP hD isC isR hC hR hnR hdis hk1 hFc hP1 hD1
  exact kk r u H1 locs1 hw hP2 hD2 hS1
theorem jn_v {S : Type} {post : S → Prop} {wo : S → va_W} {a : Array Value} (hr : va_Run p l e R s m args below meth c H locs cells slots mc ms (F0 m pc ls st0) rest (Qv D cl post wo (va_A wc H.size) a) (va_A wc H.size)) (hP : va_P D cl ws H) (hD : va_D A ws) (hS : va_S A H0 H locs) (hA : ∀ q : Nat, H0.size ≤ q → A q) (isC isR : List Nat) (hC : isC.map (fun i => ws[i]?) = wc.map some) (hR : isR.map (fun i => ws[i]?) = wr.map some) (hnR : va_nd isR = true) (hdis : ∀ i ∈ isR, i ∉ isC)
    (kk : ∀ (u : S) (H1 : Heap) (locs1 : List Loc), post u → va_P D cl (wr ++ wo u) H1 → va_D A (wr ++ wo u) → va_S A H0 H1 locs1 → W p l e R s m args below meth c H1 locs1 (cells + mc) (slots + ms) Q (F0 m (pc + 3) ls rest)) : W p l e R s m args below meth c H locs cells slots Q (F0 m pc ls st0) := by
  have hFc := va_free hD hS hA isC hC
  refine va_callv hr hS (fun q _ h => hFc q h) hFc (fun u t H1 locs1 ht hvm hw hB hz1 hk1 hS1 => ?_)
  obtain ⟨hP1, hD1⟩ := hB
  rw [ht] at hP1
  obtain ⟨hP2, hD2⟩ := va_join hP hD isC isR hC hR hnR hdis hk1 hFc hP1 hD1
  exact kk u H1 locs1 hw hP2 hD2 hS1
/-- behind a call that only reads: all cells are as they were -/
theorem jr_i {post : Int32 → Prop} {a : Array Value} (hr : va_Run p l e R s m args below meth c H locs cells slots 0 0 (F0 m pc ls st0) rest (Ri post a) (fun _ => False)) (hP : va_P D cl ws H) (hS : va_S A H0 H locs)
    (kk : ∀ (r : Int32) (H1 : Heap) (locs1 : List Loc), post r → va_P D cl ws H1 → va_S A H0 H1 locs1 → W p l e R s m args below meth c H1 locs1 cells slots Q (F0 m (pc + 3) ls (.int r :: rest))) : W p l e R s m args below meth c H locs cells slots Q (F0 m pc ls st0) :=
  va_calli hr hS (fun _ _ h => h.elim) (fun _ h => h.elim) (fun r _ _ H1 locs1 _ _ hw _ _ hk1 hS1 => kk r H1 locs1 hw (hP.kept (fun k q hq => hk1 q.1 (hP k q hq).lt (fun h => h.elim))) hS1)
theorem jr_l {post : Int64 → Prop} {a : Array Value} (hr : va_Run p l e R s m args below meth c H locs cells slots 0 0 (F0 m pc ls st0) rest (Rl post a) (fun _ => False)) (hP : va_P D cl ws H) (hS : va_S A H0 H locs)
    (kk : ∀ (r : Int64) (H1 : Heap) (locs1 : List Loc), post r → va_P D cl ws H1 → va_S A H0 H1 locs1 → W p l e R s m args below meth c H1 locs1 cells slots Q (F0 m (pc + 3) ls (.long r :: rest))) : W p l e R s m args below meth c H locs cells slots Q (F0 m pc ls st0) :=
  va_calll hr hS (fun _ _ h => h.elim) (fun _ h => h.elim) (fun r _ _ H1 locs1 _ _ hw _ _ hk1 hS1 => kk r H1 locs1 hw (hP.kept (fun k q hq => hk1 q.1 (hP k q hq).lt (fun h => h.elim))) hS1)
end CL
theorem bl0 : ∀ (a : Array Value) (U : State) (g : JFrame) (mk : MethodId), nE U → nE (U.calling g mk a) := fun _ _ _ _ _ => trivial
theorem e0 {s : State} {H : Heap} : ∀ U : State, U.heap = H → s.WarmedH U.vm → nE U := fun _ _ _ => trivial
end
section
def RX10 : String := "LikenessPound"
abbrev cX10_isMan : ByteArray := prog_1_method_43_code
def yX10_isMan : MethodName := ⟨RX10, "isMan", "(I)Z"⟩
theorem t676 : Cond.code yX10_isMan cX10_isMan 2 (some .boolean) ∈ GW := gw_mem 790 (by decide +kernel) (by decide +kernel)
def RJ4 : String := "java/lang/StringBuilder"
def TJ4 : u_T := fun k => match k with
  | 0 => ("java/lang/AbstractStringBuilder", "value", "[B", false)
  | 1 => ("java/lang/AbstractStringBuilder", "coder", "B", false)
  | 2 => ("java/lang/AbstractStringBuilder", "maybeLatin1", "Z", false)
  | _ => ("java/lang/AbstractStringBuilder", "count", "I", false)
def tyJ4 : Nat → FieldType := fun k => match k with
  | 0 => .array .byte
  | 1 => .byte
  | 2 => .boolean
  | _ => .int
theorem nmJ4 : ∀ a, a < 4 → ∀ b, b < 4 → a ≠ b → (TJ4 a).2.1 ≠ (TJ4 b).2.1 := by decide +kernel
theorem tkJ4 : ∀ k, k < 4 → parseFieldDescriptor (TJ4 k).2.2.1 = some (tyJ4 k) := by decide +kernel
theorem inJ4 : ∀ w ∈ u_ws RJ4 TJ4 4, w ∈ GW := gw_sub [465, 467, 469, 471] (by decide +kernel) (by decide +kernel)
def RX0 : String := "LikenessPound$BookText"
def TX0 : u_T := fun k => match k with
  | 0 => ("LikenessPound$BookText", "who", "[I", true)
  | 1 => ("LikenessPound$BookText", "verb", "[I", true)
  | 2 => ("LikenessPound$BookText", "whom", "[I", true)
  | 3 => ("LikenessPound$BookText", "what", "[I", true)
  | 4 => ("LikenessPound$BookText", "lines", "I", false)
  | 5 => ("LikenessPound$BookText", "judged", "Z", false)
  | 6 => ("LikenessPound$BookText", "why", "I", false)
  | 7 => ("LikenessPound$BookText", "lived", "I", false)
  | 8 => ("LikenessPound$BookText", "yearThen", "I", false)
  | _ => ("LikenessPound$BookText", "seenThen", "I", false)
def tyX0 : Nat → FieldType := fun k => match k with
  | 0 => .array .int
  | 1 => .array .int
  | 2 => .array .int
  | 3 => .array .int
  | 4 => .int
  | 5 => .boolean
  | 6 => .int
  | 7 => .int
  | 8 => .int
  | _ => .int
theorem nmX0 : ∀ a, a < 10 → ∀ b, b < 10 → a ≠ b → (TX0 a).2.1 ≠ (TX0 b).2.1 := by decide +kernel
theorem tkX0 : ∀ k, k < 10 → parseFieldDescriptor (TX0 k).2.2.1 = some (tyX0 k) := by decide +kernel
theorem inX0 : ∀ w ∈ u_ws RX0 TX0 10, w ∈ GW := gw_sub [304, 306, 308, 310, 312, 314, 316, 318, 320, 322] (by decide +kernel) (by decide +kernel)
def RX1 : String := "LikenessPound$Colony"
def TX1 : u_T := fun k => match k with
  | 0 => ("LikenessPound$Colony", "manCode", "[J", true)
  | 1 => ("LikenessPound$Colony", "deedCode", "[J", true)
  | 2 => ("LikenessPound$Colony", "weight", "[I", true)
  | 3 => ("LikenessPound$Colony", "crime", "[Z", true)
  | 4 => ("LikenessPound$Colony", "kin", "[I", true)
  | 5 => ("LikenessPound$Colony", "men", "I", false)
  | 6 => ("LikenessPound$Colony", "deeds", "I", false)
  | 7 => ("LikenessPound$Colony", "room", "I", false)
  | _ => ("LikenessPound$Colony", "faint", "I", false)
def tyX1 : Nat → FieldType := fun k => match k with
  | 0 => .array .long
  | 1 => .array .long
  | 2 => .array .int
  | 3 => .array .boolean
  | 4 => .array .int
  | 5 => .int
  | 6 => .int
  | 7 => .int
  | _ => .int
theorem nmX1 : ∀ a, a < 9 → ∀ b, b < 9 → a ≠ b → (TX1 a).2.1 ≠ (TX1 b).2.1 := by decide +kernel
theorem tkX1 : ∀ k, k < 9 → parseFieldDescriptor (TX1 k).2.2.1 = some (tyX1 k) := by decide +kernel
theorem inX1 : ∀ w ∈ u_ws RX1 TX1 9, w ∈ GW := gw_sub [525, 527, 529, 531, 533, 535, 537, 539, 541] (by decide +kernel) (by decide +kernel)
def RX2 : String := "LikenessPound$ColonyText"
def TX2 : u_T := fun k => match k with
  | 0 => ("LikenessPound$ColonyText", "lines", "I", false)
  | 1 => ("LikenessPound$ColonyText", "first", "I", false)
  | 2 => ("LikenessPound$ColonyText", "second", "I", false)
  | 3 => ("LikenessPound$ColonyText", "roomTold", "Z", false)
  | _ => ("LikenessPound$ColonyText", "faintTold", "Z", false)
def tyX2 : Nat → FieldType := fun k => match k with
  | 0 => .int
  | 1 => .int
  | 2 => .int
  | 3 => .boolean
  | _ => .boolean
theorem nmX2 : ∀ a, a < 5 → ∀ b, b < 5 → a ≠ b → (TX2 a).2.1 ≠ (TX2 b).2.1 := by decide +kernel
theorem tkX2 : ∀ k, k < 5 → parseFieldDescriptor (TX2 k).2.2.1 = some (tyX2 k) := by decide +kernel
theorem inX2 : ∀ w ∈ u_ws RX2 TX2 5, w ∈ GW := gw_sub [272, 274, 276, 278, 280] (by decide +kernel) (by decide +kernel)
def RX3 : String := "LikenessPound$Lenders"
def TX3 : u_T := fun k => match k with
  | _ => ("LikenessPound$Lenders", "loan", "[I", true)
def tyX3 : Nat → FieldType := fun k => match k with
  | _ => .array .int
theorem nmX3 : ∀ a, a < 1 → ∀ b, b < 1 → a ≠ b → (TX3 a).2.1 ≠ (TX3 b).2.1 := by decide +kernel
theorem tkX3 : ∀ k, k < 1 → parseFieldDescriptor (TX3 k).2.2.1 = some (tyX3 k) := by decide +kernel
theorem inX3 : ∀ w ∈ u_ws RX3 TX3 1, w ∈ GW := gw_sub [424] (by decide +kernel) (by decide +kernel)
def RX4 : String := "LikenessPound$Life"
def TX4 : u_T := fun k => match k with
  | 0 => ("LikenessPound$Life", "age", "[I", true)
  | 1 => ("LikenessPound$Life", "did", "[I", true)
  | 2 => ("LikenessPound$Life", "owed", "[I", true)
  | 3 => ("LikenessPound$Life", "lentTo", "[I", true)
  | 4 => ("LikenessPound$Life", "lentDeed", "[I", true)
  | 5 => ("LikenessPound$Life", "sat", "[I", true)
  | 6 => ("LikenessPound$Life", "keptWhite", "[I", true)
  | 7 => ("LikenessPound$Life", "keptDark", "[I", true)
  | 8 => ("LikenessPound$Life", "keptYear", "[I", true)
  | 9 => ("LikenessPound$Life", "keptAge", "[I", true)
  | _ => ("LikenessPound$Life", "year", "I", false)
def tyX4 : Nat → FieldType := fun k => match k with
  | 0 => .array .int
  | 1 => .array .int
  | 2 => .array .int
  | 3 => .array .int
  | 4 => .array .int
  | 5 => .array .int
  | 6 => .array .int
  | 7 => .array .int
  | 8 => .array .int
  | 9 => .array .int
  | _ => .int
theorem nmX4 : ∀ a, a < 11 → ∀ b, b < 11 → a ≠ b → (TX4 a).2.1 ≠ (TX4 b).2.1 := by decide +kernel
theorem tkX4 : ∀ k, k < 11 → parseFieldDescriptor (TX4 k).2.2.1 = some (tyX4 k) := by decide +kernel
theorem inX4 : ∀ w ∈ u_ws RX4 TX4 11, w ∈ GW := gw_sub [384, 386, 388, 390, 392, 394, 396, 398, 400, 402, 404] (by decide +kernel) (by decide +kernel)
def RX5 : String := "LikenessPound$Past"
def TX5 : u_T := fun k => match k with
  | 0 => ("LikenessPound$Past", "lives", "[LLikenessPound$Life;", true)
  | 1 => ("LikenessPound$Past", "size", "I", false)
  | _ => ("LikenessPound$Past", "next", "I", false)
def tyX5 : Nat → FieldType := fun k => match k with
  | 0 => .array (.object "LikenessPound$Life")
  | 1 => .int
  | _ => .int
theorem nmX5 : ∀ a, a < 3 → ∀ b, b < 3 → a ≠ b → (TX5 a).2.1 ≠ (TX5 b).2.1 := by decide +kernel
theorem tkX5 : ∀ k, k < 3 → parseFieldDescriptor (TX5 k).2.2.1 = some (tyX5 k) := by decide +kernel
theorem inX5 : ∀ w ∈ u_ws RX5 TX5 3, w ∈ GW := gw_sub [410, 412, 414] (by decide +kernel) (by decide +kernel)
def RX6 : String := "LikenessPound$Sentence"
def TX6 : u_T := fun k => match k with
  | 0 => ("LikenessPound$Sentence", "step", "[I", true)
  | 1 => ("LikenessPound$Sentence", "sign", "[I", true)
  | 2 => ("LikenessPound$Sentence", "number", "[I", true)
  | 3 => ("LikenessPound$Sentence", "waiting", "[I", true)
  | 4 => ("LikenessPound$Sentence", "steps", "I", false)
  | _ => ("LikenessPound$Sentence", "ones", "I", false)
def tyX6 : Nat → FieldType := fun k => match k with
  | 0 => .array .int
  | 1 => .array .int
  | 2 => .array .int
  | 3 => .array .int
  | 4 => .int
  | _ => .int
theorem nmX6 : ∀ a, a < 6 → ∀ b, b < 6 → a ≠ b → (TX6 a).2.1 ≠ (TX6 b).2.1 := by decide +kernel
theorem tkX6 : ∀ k, k < 6 → parseFieldDescriptor (TX6 k).2.2.1 = some (tyX6 k) := by decide +kernel
theorem inX6 : ∀ w ∈ u_ws RX6 TX6 6, w ∈ GW := gw_sub [560, 562, 564, 566, 568, 570] (by decide +kernel) (by decide +kernel)
def RX7 : String := "LikenessPound$Sums"
def TX7 : u_T := fun k => match k with
  | 0 => ("LikenessPound$Sums", "most", "[I", true)
  | 1 => ("LikenessPound$Sums", "fewest", "[I", true)
  | _ => ("LikenessPound$Sums", "ways", "[J", true)
def tyX7 : Nat → FieldType := fun k => match k with
  | 0 => .array .int
  | 1 => .array .int
  | _ => .array .long
theorem nmX7 : ∀ a, a < 3 → ∀ b, b < 3 → a ≠ b → (TX7 a).2.1 ≠ (TX7 b).2.1 := by decide +kernel
theorem tkX7 : ∀ k, k < 3 → parseFieldDescriptor (TX7 k).2.2.1 = some (tyX7 k) := by decide +kernel
theorem inX7 : ∀ w ∈ u_ws RX7 TX7 3, w ∈ GW := gw_sub [437, 439, 441] (by decide +kernel) (by decide +kernel)
def RX8 : String := "LikenessPound$Tape"
def TX8 : u_T := fun k => match k with
  | 0 => ("LikenessPound$Tape", "bytes", "[I", true)
  | 1 => ("LikenessPound$Tape", "wordCodes", "[J", true)
  | 2 => ("LikenessPound$Tape", "length", "I", false)
  | 3 => ("LikenessPound$Tape", "limit", "I", false)
  | 4 => ("LikenessPound$Tape", "at", "I", false)
  | 5 => ("LikenessPound$Tape", "kind", "I", false)
  | 6 => ("LikenessPound$Tape", "start", "I", false)
  | 7 => ("LikenessPound$Tape", "word", "I", false)
  | 8 => ("LikenessPound$Tape", "code", "J", false)
  | 9 => ("LikenessPound$Tape", "number", "I", false)
  | 10 => ("LikenessPound$Tape", "faultKind", "I", false)
  | _ => ("LikenessPound$Tape", "faultPlace", "I", false)
def tyX8 : Nat → FieldType := fun k => match k with
  | 0 => .array .int
  | 1 => .array .long
  | 2 => .int
  | 3 => .int
  | 4 => .int
  | 5 => .int
  | 6 => .int
  | 7 => .int
  | 8 => .long
  | 9 => .int
  | 10 => .int
  | _ => .int
theorem nmX8 : ∀ a, a < 12 → ∀ b, b < 12 → a ≠ b → (TX8 a).2.1 ≠ (TX8 b).2.1 := by decide +kernel
theorem tkX8 : ∀ k, k < 12 → parseFieldDescriptor (TX8 k).2.2.1 = some (tyX8 k) := by decide +kernel
theorem inX8 : ∀ w ∈ u_ws RX8 TX8 12, w ∈ GW := gw_sub [232, 234, 236, 238, 240, 242, 244, 246, 248, 250, 252, 254] (by decide +kernel) (by decide +kernel)
def RX9 : String := "LikenessPound$World"
def TX9 : u_T := fun k => match k with
  | 0 => ("LikenessPound$World", "colony", "LLikenessPound$Colony;", true)
  | 1 => ("LikenessPound$World", "life", "LLikenessPound$Life;", true)
  | _ => ("LikenessPound$World", "sentence", "LLikenessPound$Sentence;", true)
def tyX9 : Nat → FieldType := fun k => match k with
  | 0 => .object "LikenessPound$Colony"
  | 1 => .object "LikenessPound$Life"
  | _ => .object "LikenessPound$Sentence"
theorem nmX9 : ∀ a, a < 3 → ∀ b, b < 3 → a ≠ b → (TX9 a).2.1 ≠ (TX9 b).2.1 := by decide +kernel
theorem tkX9 : ∀ k, k < 3 → parseFieldDescriptor (TX9 k).2.2.1 = some (tyX9 k) := by decide +kernel
theorem inX9 : ∀ w ∈ u_ws RX9 TX9 3, w ∈ GW := gw_sub [584, 586, 588] (by decide +kernel) (by decide +kernel)
def TX10 : u_T := fun k => match k with
  | 0 => ("LikenessPound", "tape", "LLikenessPound$Tape;", true)
  | 1 => ("LikenessPound", "colonyText", "LLikenessPound$ColonyText;", true)
  | 2 => ("LikenessPound", "bookText", "LLikenessPound$BookText;", true)
  | 3 => ("LikenessPound", "past", "LLikenessPound$Past;", true)
  | 4 => ("LikenessPound", "lenders", "LLikenessPound$Lenders;", true)
  | 5 => ("LikenessPound", "sums", "LLikenessPound$Sums;", true)
  | 6 => ("LikenessPound", "captionText", "Ljava/lang/StringBuilder;", true)
  | 7 => ("LikenessPound", "mayRow", "[I", true)
  | 8 => ("LikenessPound", "careerRow", "[I", true)
  | 9 => ("LikenessPound", "images", "[LLikenessPound$World;", true)
  | 10 => ("LikenessPound", "imageKept", "[Z", true)
  | 11 => ("LikenessPound", "world", "LLikenessPound$World;", false)
  | 12 => ("LikenessPound", "draft", "LLikenessPound$World;", false)
  | 13 => ("LikenessPound", "latestFault", "I", false)
  | 14 => ("LikenessPound", "latestHelp", "I", false)
  | 15 => ("LikenessPound", "mayDeeds", "I", false)
  | _ => ("LikenessPound", "careerDeeds", "I", false)
def tyX10 : Nat → FieldType := fun k => match k with
  | 0 => .object "LikenessPound$Tape"
  | 1 => .object "LikenessPound$ColonyText"
  | 2 => .object "LikenessPound$BookText"
  | 3 => .object "LikenessPound$Past"
  | 4 => .object "LikenessPound$Lenders"
  | 5 => .object "LikenessPound$Sums"
  | 6 => .object "java/lang/StringBuilder"
  | 7 => .array .int
  | 8 => .array .int
  | 9 => .array (.object "LikenessPound$World")
  | 10 => .array .boolean
  | 11 => .object "LikenessPound$World"
  | 12 => .object "LikenessPound$World"
  | 13 => .int
  | 14 => .int
  | 15 => .int
  | _ => .int
theorem nmX10 : ∀ a, a < 17 → ∀ b, b < 17 → a ≠ b → (TX10 a).2.1 ≠ (TX10 b).2.1 := by decide +kernel
theorem tkX10 : ∀ k, k < 17 → parseFieldDescriptor (TX10 k).2.2.1 = some (tyX10 k) := by decide +kernel
theorem inX10 : ∀ w ∈ u_ws RX10 TX10 17, w ∈ GW := gw_sub [608, 610, 612, 614, 616, 618, 620, 622, 624, 626, 628, 630, 632, 634, 636, 638, 640] (by decide +kernel) (by decide +kernel)
def RX11 : String := "LikenessPoundModel"
def TX11 : u_T := fun k => match k with
  | 0 => ("LikenessPoundModel", "thrown", "I", false)
  | 1 => ("LikenessPoundModel", "tape", "[I", true)
  | 2 => ("LikenessPoundModel", "taped", "I", false)
  | 3 => ("LikenessPoundModel", "size", "I", false)
  | 4 => ("LikenessPoundModel", "limit", "I", false)
  | 5 => ("LikenessPoundModel", "to", "I", false)
  | 6 => ("LikenessPoundModel", "from", "I", false)
  | 7 => ("LikenessPoundModel", "kind", "I", false)
  | 8 => ("LikenessPoundModel", "number", "I", false)
  | 9 => ("LikenessPoundModel", "sign", "I", false)
  | 10 => ("LikenessPoundModel", "fault", "I", false)
  | 11 => ("LikenessPoundModel", "place", "I", false)
  | 12 => ("LikenessPoundModel", "word", "J", false)
  | 13 => ("LikenessPoundModel", "told", "I", false)
  | 14 => ("LikenessPoundModel", "now", "[I", true)
  | 15 => ("LikenessPoundModel", "read", "[I", true)
  | 16 => ("LikenessPoundModel", "kept", "[I", true)
  | 17 => ("LikenessPoundModel", "snaps", "[I", true)
  | 18 => ("LikenessPoundModel", "aside", "[I", true)
  | 19 => ("LikenessPoundModel", "name", "[J", true)
  | 20 => ("LikenessPoundModel", "readName", "[J", true)
  | 21 => ("LikenessPoundModel", "keptName", "[J", true)
  | 22 => ("LikenessPoundModel", "isKept", "[Z", true)
  | 23 => ("LikenessPoundModel", "onces", "[Z", true)
  | 24 => ("LikenessPoundModel", "snapMany", "I", false)
  | 25 => ("LikenessPoundModel", "helping", "I", false)
  | 26 => ("LikenessPoundModel", "ways", "[J", true)
  | 27 => ("LikenessPoundModel", "fewest", "[I", true)
  | 28 => ("LikenessPoundModel", "maybe", "[I", true)
  | 29 => ("LikenessPoundModel", "maybeMany", "I", false)
  | 30 => ("LikenessPoundModel", "doing", "[I", true)
  | 31 => ("LikenessPoundModel", "career", "[I", true)
  | 32 => ("LikenessPoundModel", "careerMost", "I", false)
  | 33 => ("LikenessPoundModel", "careerTimes", "I", false)
  | 34 => ("LikenessPoundModel", "careerMany", "I", false)
  | 35 => ("LikenessPoundModel", "text", "[I", true)
  | 36 => ("LikenessPoundModel", "texts", "I", false)
  | 37 => ("LikenessPoundModel", "seed", "I", false)
  | 38 => ("LikenessPoundModel", "line", "[I", true)
  | 39 => ("LikenessPoundModel", "written", "[I", true)
  | 40 => ("LikenessPoundModel", "lineMany", "I", false)
  | 41 => ("LikenessPoundModel", "hasWritten", "Z", false)
  | 42 => ("LikenessPoundModel", "node", "[I", true)
  | 43 => ("LikenessPoundModel", "nodes", "I", false)
  | 44 => ("LikenessPoundModel", "onesMany", "I", false)
  | 45 => ("LikenessPoundModel", "within", "I", false)
  | _ => ("LikenessPoundModel", "top", "I", false)
def tyX11 : Nat → FieldType := fun k => match k with
  | 0 => .int
  | 1 => .array .int
  | 2 => .int
  | 3 => .int
  | 4 => .int
  | 5 => .int
  | 6 => .int
  | 7 => .int
  | 8 => .int
  | 9 => .int
  | 10 => .int
  | 11 => .int
  | 12 => .long
  | 13 => .int
  | 14 => .array .int
  | 15 => .array .int
  | 16 => .array .int
  | 17 => .array .int
  | 18 => .array .int
  | 19 => .array .long
  | 20 => .array .long
  | 21 => .array .long
  | 22 => .array .boolean
  | 23 => .array .boolean
  | 24 => .int
  | 25 => .int
  | 26 => .array .long
  | 27 => .array .int
  | 28 => .array .int
  | 29 => .int
  | 30 => .array .int
  | 31 => .array .int
  | 32 => .int
  | 33 => .int
  | 34 => .int
  | 35 => .array .int
  | 36 => .int
  | 37 => .int
  | 38 => .array .int
  | 39 => .array .int
  | 40 => .int
  | 41 => .boolean
  | 42 => .array .int
  | 43 => .int
  | 44 => .int
  | 45 => .int
  | _ => .int
theorem nmX11 : ∀ a, a < 47 → ∀ b, b < 47 → a ≠ b → (TX11 a).2.1 ≠ (TX11 b).2.1 := by decide +kernel
theorem tkX11 : ∀ k, k < 47 → parseFieldDescriptor (TX11 k).2.2.1 = some (tyX11 k) := by decide +kernel
theorem inX11 : ∀ w ∈ u_ws RX11 TX11 47, w ∈ GW := gw_sub [1607, 1609, 1611, 1613, 1615, 1617, 1619, 1621, 1623, 1625, 1627, 1629, 1631, 1633, 1635, 1637, 1639, 1641, 1643, 1645, 1647, 1649, 1651, 1653, 1655, 1657, 1659, 1661, 1663, 1665, 1667, 1669, 1671, 1673, 1675, 1677, 1679, 1681, 1683, 1685, 1687, 1689, 1691, 1693, 1695, 1697, 1699] (by decide +kernel) (by decide +kernel)
abbrev vwCl : List vw_C := [(RJ4, TJ4, 4), (RX0, TX0, 10), (RX1, TX1, 9), (RX2, TX2, 5), (RX3, TX3, 1), (RX4, TX4, 11), (RX5, TX5, 3), (RX6, TX6, 6), (RX7, TX7, 3), (RX8, TX8, 12), (RX9, TX9, 3), (RX10, TX10, 17), (RX11, TX11, 47)]
theorem dX10_isMan_0 : decode cX10_isMan 0 = .ok (.iload_n 1, 1) := by decide +kernel
theorem dX10_isMan_1 : decode cX10_isMan 1 = .ok (.ifCond .lt 21, 3) := by decide +kernel
theorem dX10_isMan_22 : decode cX10_isMan 22 = .ok (.iconst 0, 1) := by decide +kernel
theorem dX10_isMan_23 : decode cX10_isMan 23 = .ok (.ireturn, 1) := by decide +kernel
theorem dX10_isMan_4 : decode cX10_isMan 4 = .ok (.iload_n 1, 1) := by decide +kernel
theorem dX10_isMan_5 : decode cX10_isMan 5 = .ok (.aload_n 0, 1) := by decide +kernel
theorem dX10_isMan_6 : decode cX10_isMan 6 = .ok (.getfield 76, 3) := by decide +kernel
theorem t488 : Cond.fieldLink RX10 76 "LikenessPound" "world" "LLikenessPound$World;" ∈ GW := gw_mem 602 (by decide +kernel) (by decide +kernel)
theorem gf_X10_76 {p : Program} {l : Launch} {e : Env} {R : Room} {s : State} {m : MethodId} {args : Array Value} {below : List Frame} {meth : Method} {c : Code} {H : Heap} {locs : List Loc} {cells slots : Nat} {Q : State → Prop} {cc : ByteArray} {pc : Nat} {ls : Array Slot} {rest : List Value} {D : va_G} {a : Nat} {tys : List (ClassId × FieldType)} {ws : va_W} (hx : p.tables.exec = Jvm.exec) (hb : c.code = cc) (hts : ∀ w ∈ GW, w.before args s = true) (hown : s.vm.findClass RX10 = some m.cls) (hK : va_K D vwCl tys s) (hP : va_P D vwCl ws H) (q0 : Nat) {fs : List Value} (he : ws[q0]? = some (a, .inr (11, fs))) {v : Value} (hv : fs[11]? = some v) (hdg : decode cc pc = .ok (.getfield 76, 3)) (kk : W p l e R s m args below meth c H locs cells slots Q (F0 m (pc + 3) ls (v :: rest))) : W p l e R s m args below meth c H locs cells slots Q (F0 m pc ls (.ref a :: rest)) := va_get (C := RX10) (T := TX10) (N := 17) (ci := 11) hx hb hts inX10 hown hK hP q0 he rfl 11 (by decide) (hts _ t488) (fun _ h => h) hv hdg kk
theorem dX10_isMan_9 : decode cX10_isMan 9 = .ok (.getfield 94, 3) := by decide +kernel
theorem t461 : Cond.fieldLink RX10 94 "LikenessPound$World" "colony" "LLikenessPound$Colony;" ∈ GW := gw_mem 575 (by decide +kernel) (by decide +kernel)
theorem gf_X10_94 {p : Program} {l : Launch} {e : Env} {R : Room} {s : State} {m : MethodId} {args : Array Value} {below : List Frame} {meth : Method} {c : Code} {H : Heap} {locs : List Loc} {cells slots : Nat} {Q : State → Prop} {cc : ByteArray} {pc : Nat} {ls : Array Slot} {rest : List Value} {D : va_G} {a : Nat} {tys : List (ClassId × FieldType)} {ws : va_W} (hx : p.tables.exec = Jvm.exec) (hb : c.code = cc) (hts : ∀ w ∈ GW, w.before args s = true) (hown : s.vm.findClass RX10 = some m.cls) (hK : va_K D vwCl tys s) (hP : va_P D vwCl ws H) (q0 : Nat) {fs : List Value} (he : ws[q0]? = some (a, .inr (10, fs))) {v : Value} (hv : fs[0]? = some v) (hdg : decode cc pc = .ok (.getfield 94, 3)) (kk : W p l e R s m args below meth c H locs cells slots Q (F0 m (pc + 3) ls (v :: rest))) : W p l e R s m args below meth c H locs cells slots Q (F0 m pc ls (.ref a :: rest)) := va_get (C := RX9) (T := TX9) (N := 3) (ci := 10) hx hb hts inX9 hown hK hP q0 he rfl 0 (by decide) (hts _ t461) (fun _ h => h) hv hdg kk
theorem dX10_isMan_12 : decode cX10_isMan 12 = .ok (.getfield 324, 3) := by decide +kernel
theorem t395 : Cond.fieldLink RX10 324 "LikenessPound$Colony" "men" "I" ∈ GW := gw_mem 509 (by decide +kernel) (by decide +kernel)
theorem gf_X10_324 {p : Program} {l : Launch} {e : Env} {R : Room} {s : State} {m : MethodId} {args : Array Value} {below : List Frame} {meth : Method} {c : Code} {H : Heap} {locs : List Loc} {cells slots : Nat} {Q : State → Prop} {cc : ByteArray} {pc : Nat} {ls : Array Slot} {rest : List Value} {D : va_G} {a : Nat} {tys : List (ClassId × FieldType)} {ws : va_W} (hx : p.tables.exec = Jvm.exec) (hb : c.code = cc) (hts : ∀ w ∈ GW, w.before args s = true) (hown : s.vm.findClass RX10 = some m.cls) (hK : va_K D vwCl tys s) (hP : va_P D vwCl ws H) (q0 : Nat) {fs : List Value} (he : ws[q0]? = some (a, .inr (2, fs))) {v : Value} (hv : fs[5]? = some v) (hdg : decode cc pc = .ok (.getfield 324, 3)) (kk : W p l e R s m args below meth c H locs cells slots Q (F0 m (pc + 3) ls (v :: rest))) : W p l e R s m args below meth c H locs cells slots Q (F0 m pc ls (.ref a :: rest)) := va_get (C := RX1) (T := TX1) (N := 9) (ci := 2) hx hb hts inX1 hown hK hP q0 he rfl 5 (by decide) (hts _ t395) (fun _ h => h) hv hdg kk
theorem dX10_isMan_15 : decode cX10_isMan 15 = .ok (.if_icmp .ge 7, 3) := by decide +kernel
set_option maxHeartbeats 4000000 in
set_option maxRecDepth 100000 in
theorem k_isMan (l : Launch) (dC : Nat → ClassId) (dI : Nat → Nat → Nat) (cy : Nat → ClassId) (ad : Nat → Nat) (n0 : Int32)  : Met l yX10_isMan (wl yX10_isMan cX10_isMan 2 (some .boolean)) ({ frames := 0, cells := 0, slots := 0, locals := 0 }) (Pr (dC, dI) vwCl cy [(ad 0, .inr (11, [.ref (ad 1), .ref (ad 4), .ref (ad 5), .ref (ad 10), .ref (ad 23), .ref (ad 24), .ref (ad 25), .ref (ad 27), .ref (ad 28), .ref (ad 29), .ref (ad 30), .ref (ad 31), .ref (ad 54), .int 0, .int (-1), .int 0, .int 0])), (ad 31, .inr (10, [.ref (ad 32), .ref (ad 38), .ref (ad 49)])), (ad 32, .inr (2, [.ref (ad 33), .ref (ad 34), .ref (ad 35), .ref (ad 36), .ref (ad 37), .int 0, .int 0, .int 60, .int 10]))] [.ref (ad 0), .int n0]) (Ri (fun r => r = 0)) 0 0 (fun _ => False) := by
  refine mr RX10 rfl (by decide +kernel) (Nat.le_of_ble_eq_true rfl) ?_
  intro p e s m below meth c hx hb hr hlocks av9 hav hts hown hml hK hP hS Q9 hQ9 ls hl
  have hl : lv_has ls 2 [(0, .ref (ad 0)), (1, .int n0)] := hl
  refine lv_iload_n hx hb dX10_isMan_0 rfl (lv_at hl 1 rfl) ?_
  refine lv_if_lt (tgt := 22) hx hb dX10_isMan_1 (by decide) (fun c_1 => ?_) (fun c_1 => ?_)
  · skip
    refine lv_iconst (v := 0) hx hb dX10_isMan_22 (by decide) ?_
    rw [hQ9]
    exact rr_z hx hb hr hlocks (Or.inl rfl) rfl hS dX10_isMan_23
  · skip
    refine lv_iload_n hx hb dX10_isMan_4 rfl (lv_at hl 1 rfl) ?_
    refine lv_aload_n hx hb dX10_isMan_5 rfl (lv_at hl 0 rfl) ?_
    refine gf_X10_76 hx hb hts hown hK hP 0 rfl rfl dX10_isMan_6 ?_
    refine gf_X10_94 hx hb hts hown hK hP 1 rfl rfl dX10_isMan_9 ?_
    refine gf_X10_324 hx hb hts hown hK hP 2 rfl rfl dX10_isMan_12 ?_
    refine lv_icmp_ge (tgt := 22) hx hb dX10_isMan_15 (by decide) (fun _ => ?_) (fun c9 => absurd (Int32.not_lt.mp c_1) c9)
    refine lv_iconst (v := 0) hx hb dX10_isMan_22 (by decide) ?_
    rw [hQ9]
    exact rr_z hx hb hr hlocks (Or.inl rfl) rfl hS dX10_isMan_23
abbrev cX10_isDeed : ByteArray := prog_1_method_44_code
def yX10_isDeed : MethodName := ⟨RX10, "isDeed", "(I)Z"⟩
theorem t680 : Cond.code yX10_isDeed cX10_isDeed 2 (some .boolean) ∈ GW := gw_mem 794 (by decide +kernel) (by decide +kernel)
theorem dX10_isDeed_0 : decode cX10_isDeed 0 = .ok (.iload_n 1, 1) := by decide +kernel
theorem dX10_isDeed_1 : decode cX10_isDeed 1 = .ok (.ifCond .lt 21, 3) := by decide +kernel
theorem dX10_isDeed_22 : decode cX10_isDeed 22 = .ok (.iconst 0, 1) := by decide +kernel
theorem dX10_isDeed_23 : decode cX10_isDeed 23 = .ok (.ireturn, 1) := by decide +kernel
theorem dX10_isDeed_4 : decode cX10_isDeed 4 = .ok (.iload_n 1, 1) := by decide +kernel
theorem dX10_isDeed_5 : decode cX10_isDeed 5 = .ok (.aload_n 0, 1) := by decide +kernel
theorem dX10_isDeed_6 : decode cX10_isDeed 6 = .ok (.getfield 76, 3) := by decide +kernel
theorem dX10_isDeed_9 : decode cX10_isDeed 9 = .ok (.getfield 94, 3) := by decide +kernel
theorem dX10_isDeed_12 : decode cX10_isDeed 12 = .ok (.getfield 295, 3) := by decide +kernel
theorem t401 : Cond.fieldLink RX10 295 "LikenessPound$Colony" "deeds" "I" ∈ GW := gw_mem 515 (by decide +kernel) (by decide +kernel)
theorem gf_X10_295 {p : Program} {l : Launch} {e : Env} {R : Room} {s : State} {m : MethodId} {args : Array Value} {below : List Frame} {meth : Method} {c : Code} {H : Heap} {locs : List Loc} {cells slots : Nat} {Q : State → Prop} {cc : ByteArray} {pc : Nat} {ls : Array Slot} {rest : List Value} {D : va_G} {a : Nat} {tys : List (ClassId × FieldType)} {ws : va_W} (hx : p.tables.exec = Jvm.exec) (hb : c.code = cc) (hts : ∀ w ∈ GW, w.before args s = true) (hown : s.vm.findClass RX10 = some m.cls) (hK : va_K D vwCl tys s) (hP : va_P D vwCl ws H) (q0 : Nat) {fs : List Value} (he : ws[q0]? = some (a, .inr (2, fs))) {v : Value} (hv : fs[6]? = some v) (hdg : decode cc pc = .ok (.getfield 295, 3)) (kk : W p l e R s m args below meth c H locs cells slots Q (F0 m (pc + 3) ls (v :: rest))) : W p l e R s m args below meth c H locs cells slots Q (F0 m pc ls (.ref a :: rest)) := va_get (C := RX1) (T := TX1) (N := 9) (ci := 2) hx hb hts inX1 hown hK hP q0 he rfl 6 (by decide) (hts _ t401) (fun _ h => h) hv hdg kk
theorem dX10_isDeed_15 : decode cX10_isDeed 15 = .ok (.if_icmp .ge 7, 3) := by decide +kernel
set_option maxHeartbeats 4000000 in
set_option maxRecDepth 100000 in
theorem k_isDeed (l : Launch) (dC : Nat → ClassId) (dI : Nat → Nat → Nat) (cy : Nat → ClassId) (ad : Nat → Nat) (n0 : Int32)  : Met l yX10_isDeed (wl yX10_isDeed cX10_isDeed 2 (some .boolean)) ({ frames := 0, cells := 0, slots := 0, locals := 0 }) (Pr (dC, dI) vwCl cy [(ad 0, .inr (11, [.ref (ad 1), .ref (ad 4), .ref (ad 5), .ref (ad 10), .ref (ad 23), .ref (ad 24), .ref (ad 25), .ref (ad 27), .ref (ad 28), .ref (ad 29), .ref (ad 30), .ref (ad 31), .ref (ad 54), .int 0, .int (-1), .int 0, .int 0])), (ad 31, .inr (10, [.ref (ad 32), .ref (ad 38), .ref (ad 49)])), (ad 32, .inr (2, [.ref (ad 33), .ref (ad 34), .ref (ad 35), .ref (ad 36), .ref (ad 37), .int 0, .int 0, .int 60, .int 10]))] [.ref (ad 0), .int n0]) (Ri (fun r => r = 0)) 0 0 (fun _ => False) := by
  refine mr RX10 rfl (by decide +kernel) (Nat.le_of_ble_eq_true rfl) ?_
  intro p e s m below meth c hx hb hr hlocks av9 hav hts hown hml hK hP hS Q9 hQ9 ls hl
  have hl : lv_has ls 2 [(0, .ref (ad 0)), (1, .int n0)] := hl
  refine lv_iload_n hx hb dX10_isDeed_0 rfl (lv_at hl 1 rfl) ?_
  refine lv_if_lt (tgt := 22) hx hb dX10_isDeed_1 (by decide) (fun c_1 => ?_) (fun c_1 => ?_)
  · skip
    refine lv_iconst (v := 0) hx hb dX10_isDeed_22 (by decide) ?_
    rw [hQ9]
    exact rr_z hx hb hr hlocks (Or.inl rfl) rfl hS dX10_isDeed_23
  · skip
    refine lv_iload_n hx hb dX10_isDeed_4 rfl (lv_at hl 1 rfl) ?_
    refine lv_aload_n hx hb dX10_isDeed_5 rfl (lv_at hl 0 rfl) ?_
    refine gf_X10_76 hx hb hts hown hK hP 0 rfl rfl dX10_isDeed_6 ?_
    refine gf_X10_94 hx hb hts hown hK hP 1 rfl rfl dX10_isDeed_9 ?_
    refine gf_X10_295 hx hb hts hown hK hP 2 rfl rfl dX10_isDeed_12 ?_
    refine lv_icmp_ge (tgt := 22) hx hb dX10_isDeed_15 (by decide) (fun _ => ?_) (fun c9 => absurd (Int32.not_lt.mp c_1) c9)
    refine lv_iconst (v := 0) hx hb dX10_isDeed_22 (by decide) ?_
    rw [hQ9]
    exact rr_z hx hb hr hlocks (Or.inl rfl) rfl hS dX10_isDeed_23
abbrev cX10_did : ByteArray := prog_1_method_7_code
def yX10_did : MethodName := ⟨RX10, "did", "(II)I"⟩
theorem t672 : Cond.code yX10_did cX10_did 3 (some .int) ∈ GW := gw_mem 786 (by decide +kernel) (by decide +kernel)
theorem dX10_did_0 : decode cX10_did 0 = .ok (.aload_n 0, 1) := by decide +kernel
theorem dX10_did_1 : decode cX10_did 1 = .ok (.iload_n 1, 1) := by decide +kernel
theorem dX10_did_2 : decode cX10_did 2 = .ok (.invokevirtual 128, 3) := by decide +kernel
theorem t673 : Cond.methodLink RX10 128 yX10_isMan ∈ GW := gw_mem 787 (by decide +kernel) (by decide +kernel)
theorem t1 : Cond.initialized RX10 ∈ GW := gw_mem 115 (by decide +kernel) (by decide +kernel)
theorem t675 : Cond.instanceMethod yX10_isMan ∈ GW := gw_mem 789 (by decide +kernel) (by decide +kernel)
theorem s8 : Cond.selects RX10 yX10_isMan yX10_isMan ∈ GW := gw_mem 8 (by decide +kernel) (by decide +kernel)
theorem cw_X10_128 {R : Room} {s : State} {args : Array Value} {rm : Room} {mc ms : Nat} (hts : ∀ w ∈ GW, w.before args s = true) (hrc : rm.cells = mc) (hrs : rm.slots = ms) (hR : rm.frames + 1 ≤ R.frames ∧ 8 + (2 + 11) + rm.locals ≤ R.locals) : CallW R s args RX10 RX10 128 yX10_isMan cX10_isMan 2 (some .boolean) (wl yX10_isMan cX10_isMan 2 (some .boolean)) rm mc ms 1 := cwV 1 hts (gi_V t673 t675 s8 t1 t676) rfl hrc hrs (by decide +kernel) hR
theorem dX10_did_5 : decode cX10_did 5 = .ok (.ifCond .eq 31, 3) := by decide +kernel
theorem dX10_did_36 : decode cX10_did 36 = .ok (.iconst (-1), 1) := by decide +kernel
theorem dX10_did_37 : decode cX10_did 37 = .ok (.ireturn, 1) := by decide +kernel
set_option maxHeartbeats 4000000 in
set_option maxRecDepth 100000 in
theorem k_did (l : Launch) (dC : Nat → ClassId) (dI : Nat → Nat → Nat) (cy : Nat → ClassId) (ad : Nat → Nat) (n0 : Int32) (n1 : Int32)  : Met l yX10_did (wl yX10_did cX10_did 3 (some .int)) ({ frames := 1, cells := 0, slots := 0, locals := 64 }) (Pr (dC, dI) vwCl cy [(ad 0, .inr (11, [.ref (ad 1), .ref (ad 4), .ref (ad 5), .ref (ad 10), .ref (ad 23), .ref (ad 24), .ref (ad 25), .ref (ad 27), .ref (ad 28), .ref (ad 29), .ref (ad 30), .ref (ad 31), .ref (ad 54), .int 0, .int (-1), .int 0, .int 0])), (ad 31, .inr (10, [.ref (ad 32), .ref (ad 38), .ref (ad 49)])), (ad 32, .inr (2, [.ref (ad 33), .ref (ad 34), .ref (ad 35), .ref (ad 36), .ref (ad 37), .int 0, .int 0, .int 60, .int 10]))] [.ref (ad 0), .int n0, .int n1]) (Ri (fun r => r = (-1))) 0 0 (fun _ => False) := by
  refine mr RX10 rfl (by decide +kernel) (Nat.le_of_ble_eq_true rfl) ?_
  intro p e s m below meth c hx hb hr hlocks av9 hav hts hown hml hK hP hS Q9 hQ9 ls hl
  have hl : lv_has ls 3 [(0, .ref (ad 0)), (1, .int n0), (2, .int n1)] := hl
  refine lv_aload_n hx hb dX10_did_0 rfl (lv_at hl 0 rfl) ?_
  refine lv_iload_n hx hb dX10_did_1 rfl (lv_at hl 1 rfl) ?_
  refine jr_i (rVr (As := [.int n0]) (rest := []) (ci := 11) ⟨hx, hb, hml, hown, hts⟩ (k_isMan l dC dI cy ad n0 ) (cw_X10_128 hts rfl rfl ⟨Nat.le_of_ble_eq_true rfl, Nat.le_of_ble_eq_true rfl⟩) hP hK [0, 1, 2] rfl rfl rfl rfl hl.1 rfl (Nat.le_of_ble_eq_true rfl) dX10_did_2 ⟨Nat.le_of_ble_eq_true rfl, Nat.le_of_ble_eq_true rfl⟩) hP hS (fun r_1 H locs hp_2 hP hS => ?_)
  refine as_i 0 hp_2 ?_
  refine lv_if_eq (tgt := 36) hx hb dX10_did_5 (by decide) (fun _ => ?_) (fun c9 => absurd (by decide) c9)
  refine lv_iconst (v := (-1)) hx hb dX10_did_36 (by decide) ?_
  rw [hQ9]
  exact rr_i hx hb hr hlocks rfl hS dX10_did_37
abbrev cX10_deed : ByteArray := prog_1_method_8_code
def yX10_deed : MethodName := ⟨RX10, "deed", "(II)I"⟩
theorem t684 : Cond.code yX10_deed cX10_deed 3 (some .int) ∈ GW := gw_mem 798 (by decide +kernel) (by decide +kernel)
theorem dX10_deed_0 : decode cX10_deed 0 = .ok (.aload_n 0, 1) := by decide +kernel
theorem dX10_deed_1 : decode cX10_deed 1 = .ok (.iload_n 1, 1) := by decide +kernel
theorem dX10_deed_2 : decode cX10_deed 2 = .ok (.invokevirtual 162, 3) := by decide +kernel
theorem t677 : Cond.methodLink RX10 162 yX10_isDeed ∈ GW := gw_mem 791 (by decide +kernel) (by decide +kernel)
theorem t679 : Cond.instanceMethod yX10_isDeed ∈ GW := gw_mem 793 (by decide +kernel) (by decide +kernel)
theorem s9 : Cond.selects RX10 yX10_isDeed yX10_isDeed ∈ GW := gw_mem 9 (by decide +kernel) (by decide +kernel)
theorem cw_X10_162 {R : Room} {s : State} {args : Array Value} {rm : Room} {mc ms : Nat} (hts : ∀ w ∈ GW, w.before args s = true) (hrc : rm.cells = mc) (hrs : rm.slots = ms) (hR : rm.frames + 1 ≤ R.frames ∧ 8 + (2 + 11) + rm.locals ≤ R.locals) : CallW R s args RX10 RX10 162 yX10_isDeed cX10_isDeed 2 (some .boolean) (wl yX10_isDeed cX10_isDeed 2 (some .boolean)) rm mc ms 1 := cwV 1 hts (gi_V t677 t679 s9 t1 t680) rfl hrc hrs (by decide +kernel) hR
theorem dX10_deed_5 : decode cX10_deed 5 = .ok (.ifCond .ne 5, 3) := by decide +kernel
theorem dX10_deed_8 : decode cX10_deed 8 = .ok (.iconst (-1), 1) := by decide +kernel
theorem dX10_deed_9 : decode cX10_deed 9 = .ok (.ireturn, 1) := by decide +kernel
set_option maxHeartbeats 4000000 in
set_option maxRecDepth 100000 in
theorem k_deed (l : Launch) (dC : Nat → ClassId) (dI : Nat → Nat → Nat) (cy : Nat → ClassId) (ad : Nat → Nat) (n0 : Int32) (n1 : Int32)  : Met l yX10_deed (wl yX10_deed cX10_deed 3 (some .int)) ({ frames := 1, cells := 0, slots := 0, locals := 64 }) (Pr (dC, dI) vwCl cy [(ad 0, .inr (11, [.ref (ad 1), .ref (ad 4), .ref (ad 5), .ref (ad 10), .ref (ad 23), .ref (ad 24), .ref (ad 25), .ref (ad 27), .ref (ad 28), .ref (ad 29), .ref (ad 30), .ref (ad 31), .ref (ad 54), .int 0, .int (-1), .int 0, .int 0])), (ad 31, .inr (10, [.ref (ad 32), .ref (ad 38), .ref (ad 49)])), (ad 32, .inr (2, [.ref (ad 33), .ref (ad 34), .ref (ad 35), .ref (ad 36), .ref (ad 37), .int 0, .int 0, .int 60, .int 10]))] [.ref (ad 0), .int n0, .int n1]) (Ri (fun r => r = (-1))) 0 0 (fun _ => False) := by
  refine mr RX10 rfl (by decide +kernel) (Nat.le_of_ble_eq_true rfl) ?_
  intro p e s m below meth c hx hb hr hlocks av9 hav hts hown hml hK hP hS Q9 hQ9 ls hl
  have hl : lv_has ls 3 [(0, .ref (ad 0)), (1, .int n0), (2, .int n1)] := hl
  refine lv_aload_n hx hb dX10_deed_0 rfl (lv_at hl 0 rfl) ?_
  refine lv_iload_n hx hb dX10_deed_1 rfl (lv_at hl 1 rfl) ?_
  refine jr_i (rVr (As := [.int n0]) (rest := []) (ci := 11) ⟨hx, hb, hml, hown, hts⟩ (k_isDeed l dC dI cy ad n0 ) (cw_X10_162 hts rfl rfl ⟨Nat.le_of_ble_eq_true rfl, Nat.le_of_ble_eq_true rfl⟩) hP hK [0, 1, 2] rfl rfl rfl rfl hl.1 rfl (Nat.le_of_ble_eq_true rfl) dX10_deed_2 ⟨Nat.le_of_ble_eq_true rfl, Nat.le_of_ble_eq_true rfl⟩) hP hS (fun r_1 H locs hp_2 hP hS => ?_)
  refine as_i 0 hp_2 ?_
  refine lv_if_ne (tgt := 10) hx hb dX10_deed_5 (by decide) (fun c9 => absurd c9 (by decide)) (fun _ => ?_)
  refine lv_iconst (v := (-1)) hx hb dX10_deed_8 (by decide) ?_
  rw [hQ9]
  exact rr_i hx hb hr hlocks rfl hS dX10_deed_9
abbrev cX10_owes : ByteArray := prog_1_method_9_code
def yX10_owes : MethodName := ⟨RX10, "owes", "(II)I"⟩
theorem t692 : Cond.code yX10_owes cX10_owes 3 (some .int) ∈ GW := gw_mem 806 (by decide +kernel) (by decide +kernel)
theorem dX10_owes_0 : decode cX10_owes 0 = .ok (.aload_n 0, 1) := by decide +kernel
theorem dX10_owes_1 : decode cX10_owes 1 = .ok (.iload_n 1, 1) := by decide +kernel
theorem dX10_owes_2 : decode cX10_owes 2 = .ok (.invokevirtual 128, 3) := by decide +kernel
theorem dX10_owes_5 : decode cX10_owes 5 = .ok (.ifCond .eq 31, 3) := by decide +kernel
theorem dX10_owes_36 : decode cX10_owes 36 = .ok (.iconst (-1), 1) := by decide +kernel
theorem dX10_owes_37 : decode cX10_owes 37 = .ok (.ireturn, 1) := by decide +kernel
set_option maxHeartbeats 4000000 in
set_option maxRecDepth 100000 in
theorem k_owes (l : Launch) (dC : Nat → ClassId) (dI : Nat → Nat → Nat) (cy : Nat → ClassId) (ad : Nat → Nat) (n0 : Int32) (n1 : Int32)  : Met l yX10_owes (wl yX10_owes cX10_owes 3 (some .int)) ({ frames := 1, cells := 0, slots := 0, locals := 64 }) (Pr (dC, dI) vwCl cy [(ad 0, .inr (11, [.ref (ad 1), .ref (ad 4), .ref (ad 5), .ref (ad 10), .ref (ad 23), .ref (ad 24), .ref (ad 25), .ref (ad 27), .ref (ad 28), .ref (ad 29), .ref (ad 30), .ref (ad 31), .ref (ad 54), .int 0, .int (-1), .int 0, .int 0])), (ad 31, .inr (10, [.ref (ad 32), .ref (ad 38), .ref (ad 49)])), (ad 32, .inr (2, [.ref (ad 33), .ref (ad 34), .ref (ad 35), .ref (ad 36), .ref (ad 37), .int 0, .int 0, .int 60, .int 10]))] [.ref (ad 0), .int n0, .int n1]) (Ri (fun r => r = (-1))) 0 0 (fun _ => False) := by
  refine mr RX10 rfl (by decide +kernel) (Nat.le_of_ble_eq_true rfl) ?_
  intro p e s m below meth c hx hb hr hlocks av9 hav hts hown hml hK hP hS Q9 hQ9 ls hl
  have hl : lv_has ls 3 [(0, .ref (ad 0)), (1, .int n0), (2, .int n1)] := hl
  refine lv_aload_n hx hb dX10_owes_0 rfl (lv_at hl 0 rfl) ?_
  refine lv_iload_n hx hb dX10_owes_1 rfl (lv_at hl 1 rfl) ?_
  refine jr_i (rVr (As := [.int n0]) (rest := []) (ci := 11) ⟨hx, hb, hml, hown, hts⟩ (k_isMan l dC dI cy ad n0 ) (cw_X10_128 hts rfl rfl ⟨Nat.le_of_ble_eq_true rfl, Nat.le_of_ble_eq_true rfl⟩) hP hK [0, 1, 2] rfl rfl rfl rfl hl.1 rfl (Nat.le_of_ble_eq_true rfl) dX10_owes_2 ⟨Nat.le_of_ble_eq_true rfl, Nat.le_of_ble_eq_true rfl⟩) hP hS (fun r_1 H locs hp_2 hP hS => ?_)
  refine as_i 0 hp_2 ?_
  refine lv_if_eq (tgt := 36) hx hb dX10_owes_5 (by decide) (fun _ => ?_) (fun c9 => absurd (by decide) c9)
  refine lv_iconst (v := (-1)) hx hb dX10_owes_36 (by decide) ?_
  rw [hQ9]
  exact rr_i hx hb hr hlocks rfl hS dX10_owes_37
abbrev cX10_kin : ByteArray := prog_1_method_10_code
def yX10_kin : MethodName := ⟨RX10, "kin", "(I)I"⟩
theorem t696 : Cond.code yX10_kin cX10_kin 2 (some .int) ∈ GW := gw_mem 810 (by decide +kernel) (by decide +kernel)
theorem dX10_kin_0 : decode cX10_kin 0 = .ok (.aload_n 0, 1) := by decide +kernel
theorem dX10_kin_1 : decode cX10_kin 1 = .ok (.iload_n 1, 1) := by decide +kernel
theorem dX10_kin_2 : decode cX10_kin 2 = .ok (.invokevirtual 128, 3) := by decide +kernel
theorem dX10_kin_5 : decode cX10_kin 5 = .ok (.ifCond .eq 18, 3) := by decide +kernel
theorem dX10_kin_23 : decode cX10_kin 23 = .ok (.iconst (-1), 1) := by decide +kernel
theorem dX10_kin_24 : decode cX10_kin 24 = .ok (.ireturn, 1) := by decide +kernel
set_option maxHeartbeats 4000000 in
set_option maxRecDepth 100000 in
theorem k_kin (l : Launch) (dC : Nat → ClassId) (dI : Nat → Nat → Nat) (cy : Nat → ClassId) (ad : Nat → Nat) (n0 : Int32)  : Met l yX10_kin (wl yX10_kin cX10_kin 2 (some .int)) ({ frames := 1, cells := 0, slots := 0, locals := 64 }) (Pr (dC, dI) vwCl cy [(ad 0, .inr (11, [.ref (ad 1), .ref (ad 4), .ref (ad 5), .ref (ad 10), .ref (ad 23), .ref (ad 24), .ref (ad 25), .ref (ad 27), .ref (ad 28), .ref (ad 29), .ref (ad 30), .ref (ad 31), .ref (ad 54), .int 0, .int (-1), .int 0, .int 0])), (ad 31, .inr (10, [.ref (ad 32), .ref (ad 38), .ref (ad 49)])), (ad 32, .inr (2, [.ref (ad 33), .ref (ad 34), .ref (ad 35), .ref (ad 36), .ref (ad 37), .int 0, .int 0, .int 60, .int 10]))] [.ref (ad 0), .int n0]) (Ri (fun r => r = (-1))) 0 0 (fun _ => False) := by
  refine mr RX10 rfl (by decide +kernel) (Nat.le_of_ble_eq_true rfl) ?_
  intro p e s m below meth c hx hb hr hlocks av9 hav hts hown hml hK hP hS Q9 hQ9 ls hl
  have hl : lv_has ls 2 [(0, .ref (ad 0)), (1, .int n0)] := hl
  refine lv_aload_n hx hb dX10_kin_0 rfl (lv_at hl 0 rfl) ?_
  refine lv_iload_n hx hb dX10_kin_1 rfl (lv_at hl 1 rfl) ?_
  refine jr_i (rVr (As := [.int n0]) (rest := []) (ci := 11) ⟨hx, hb, hml, hown, hts⟩ (k_isMan l dC dI cy ad n0 ) (cw_X10_128 hts rfl rfl ⟨Nat.le_of_ble_eq_true rfl, Nat.le_of_ble_eq_true rfl⟩) hP hK [0, 1, 2] rfl rfl rfl rfl hl.1 rfl (Nat.le_of_ble_eq_true rfl) dX10_kin_2 ⟨Nat.le_of_ble_eq_true rfl, Nat.le_of_ble_eq_true rfl⟩) hP hS (fun r_1 H locs hp_2 hP hS => ?_)
  refine as_i 0 hp_2 ?_
  refine lv_if_eq (tgt := 23) hx hb dX10_kin_5 (by decide) (fun _ => ?_) (fun c9 => absurd (by decide) c9)
  refine lv_iconst (v := (-1)) hx hb dX10_kin_23 (by decide) ?_
  rw [hQ9]
  exact rr_i hx hb hr hlocks rfl hS dX10_kin_24
abbrev cX10_cell : ByteArray := prog_1_method_11_code
def yX10_cell : MethodName := ⟨RX10, "cell", "(II)I"⟩
theorem t700 : Cond.code yX10_cell cX10_cell 3 (some .int) ∈ GW := gw_mem 814 (by decide +kernel) (by decide +kernel)
theorem dX10_cell_0 : decode cX10_cell 0 = .ok (.aload_n 0, 1) := by decide +kernel
theorem dX10_cell_1 : decode cX10_cell 1 = .ok (.iload_n 1, 1) := by decide +kernel
theorem dX10_cell_2 : decode cX10_cell 2 = .ok (.invokevirtual 128, 3) := by decide +kernel
theorem dX10_cell_5 : decode cX10_cell 5 = .ok (.ifCond .eq 21, 3) := by decide +kernel
theorem dX10_cell_26 : decode cX10_cell 26 = .ok (.iconst (-1), 1) := by decide +kernel
theorem dX10_cell_27 : decode cX10_cell 27 = .ok (.ireturn, 1) := by decide +kernel
set_option maxHeartbeats 4000000 in
set_option maxRecDepth 100000 in
theorem k_cell (l : Launch) (dC : Nat → ClassId) (dI : Nat → Nat → Nat) (cy : Nat → ClassId) (ad : Nat → Nat) (n0 : Int32) (n1 : Int32)  : Met l yX10_cell (wl yX10_cell cX10_cell 3 (some .int)) ({ frames := 1, cells := 0, slots := 0, locals := 64 }) (Pr (dC, dI) vwCl cy [(ad 0, .inr (11, [.ref (ad 1), .ref (ad 4), .ref (ad 5), .ref (ad 10), .ref (ad 23), .ref (ad 24), .ref (ad 25), .ref (ad 27), .ref (ad 28), .ref (ad 29), .ref (ad 30), .ref (ad 31), .ref (ad 54), .int 0, .int (-1), .int 0, .int 0])), (ad 31, .inr (10, [.ref (ad 32), .ref (ad 38), .ref (ad 49)])), (ad 32, .inr (2, [.ref (ad 33), .ref (ad 34), .ref (ad 35), .ref (ad 36), .ref (ad 37), .int 0, .int 0, .int 60, .int 10]))] [.ref (ad 0), .int n0, .int n1]) (Ri (fun r => r = (-1))) 0 0 (fun _ => False) := by
  refine mr RX10 rfl (by decide +kernel) (Nat.le_of_ble_eq_true rfl) ?_
  intro p e s m below meth c hx hb hr hlocks av9 hav hts hown hml hK hP hS Q9 hQ9 ls hl
  have hl : lv_has ls 3 [(0, .ref (ad 0)), (1, .int n0), (2, .int n1)] := hl
  refine lv_aload_n hx hb dX10_cell_0 rfl (lv_at hl 0 rfl) ?_
  refine lv_iload_n hx hb dX10_cell_1 rfl (lv_at hl 1 rfl) ?_
  refine jr_i (rVr (As := [.int n0]) (rest := []) (ci := 11) ⟨hx, hb, hml, hown, hts⟩ (k_isMan l dC dI cy ad n0 ) (cw_X10_128 hts rfl rfl ⟨Nat.le_of_ble_eq_true rfl, Nat.le_of_ble_eq_true rfl⟩) hP hK [0, 1, 2] rfl rfl rfl rfl hl.1 rfl (Nat.le_of_ble_eq_true rfl) dX10_cell_2 ⟨Nat.le_of_ble_eq_true rfl, Nat.le_of_ble_eq_true rfl⟩) hP hS (fun r_1 H locs hp_2 hP hS => ?_)
  refine as_i 0 hp_2 ?_
  refine lv_if_eq (tgt := 26) hx hb dX10_cell_5 (by decide) (fun _ => ?_) (fun c9 => absurd (by decide) c9)
  refine lv_iconst (v := (-1)) hx hb dX10_cell_26 (by decide) ?_
  rw [hQ9]
  exact rr_i hx hb hr hlocks rfl hS dX10_cell_27
abbrev cX10_kept : ByteArray := prog_1_method_12_code
def yX10_kept : MethodName := ⟨RX10, "kept", "(II)I"⟩
theorem t720 : Cond.code yX10_kept cX10_kept 3 (some .int) ∈ GW := gw_mem 834 (by decide +kernel) (by decide +kernel)
theorem dX10_kept_0 : decode cX10_kept 0 = .ok (.aload_n 0, 1) := by decide +kernel
theorem dX10_kept_1 : decode cX10_kept 1 = .ok (.iload_n 1, 1) := by decide +kernel
theorem dX10_kept_2 : decode cX10_kept 2 = .ok (.invokevirtual 128, 3) := by decide +kernel
theorem dX10_kept_5 : decode cX10_kept 5 = .ok (.ifCond .eq 18, 3) := by decide +kernel
theorem dX10_kept_23 : decode cX10_kept 23 = .ok (.iconst (-1), 1) := by decide +kernel
theorem dX10_kept_24 : decode cX10_kept 24 = .ok (.ireturn, 1) := by decide +kernel
set_option maxHeartbeats 4000000 in
set_option maxRecDepth 100000 in
theorem k_kept (l : Launch) (dC : Nat → ClassId) (dI : Nat → Nat → Nat) (cy : Nat → ClassId) (ad : Nat → Nat) (n0 : Int32) (n1 : Int32)  : Met l yX10_kept (wl yX10_kept cX10_kept 3 (some .int)) ({ frames := 1, cells := 0, slots := 0, locals := 64 }) (Pr (dC, dI) vwCl cy [(ad 0, .inr (11, [.ref (ad 1), .ref (ad 4), .ref (ad 5), .ref (ad 10), .ref (ad 23), .ref (ad 24), .ref (ad 25), .ref (ad 27), .ref (ad 28), .ref (ad 29), .ref (ad 30), .ref (ad 31), .ref (ad 54), .int 0, .int (-1), .int 0, .int 0])), (ad 31, .inr (10, [.ref (ad 32), .ref (ad 38), .ref (ad 49)])), (ad 32, .inr (2, [.ref (ad 33), .ref (ad 34), .ref (ad 35), .ref (ad 36), .ref (ad 37), .int 0, .int 0, .int 60, .int 10]))] [.ref (ad 0), .int n0, .int n1]) (Ri (fun r => r = (-1))) 0 0 (fun _ => False) := by
  refine mr RX10 rfl (by decide +kernel) (Nat.le_of_ble_eq_true rfl) ?_
  intro p e s m below meth c hx hb hr hlocks av9 hav hts hown hml hK hP hS Q9 hQ9 ls hl
  have hl : lv_has ls 3 [(0, .ref (ad 0)), (1, .int n0), (2, .int n1)] := hl
  refine lv_aload_n hx hb dX10_kept_0 rfl (lv_at hl 0 rfl) ?_
  refine lv_iload_n hx hb dX10_kept_1 rfl (lv_at hl 1 rfl) ?_
  refine jr_i (rVr (As := [.int n0]) (rest := []) (ci := 11) ⟨hx, hb, hml, hown, hts⟩ (k_isMan l dC dI cy ad n0 ) (cw_X10_128 hts rfl rfl ⟨Nat.le_of_ble_eq_true rfl, Nat.le_of_ble_eq_true rfl⟩) hP hK [0, 1, 2] rfl rfl rfl rfl hl.1 rfl (Nat.le_of_ble_eq_true rfl) dX10_kept_2 ⟨Nat.le_of_ble_eq_true rfl, Nat.le_of_ble_eq_true rfl⟩) hP hS (fun r_1 H locs hp_2 hP hS => ?_)
  refine as_i 0 hp_2 ?_
  refine lv_if_eq (tgt := 23) hx hb dX10_kept_5 (by decide) (fun _ => ?_) (fun c9 => absurd (by decide) c9)
  refine lv_iconst (v := (-1)) hx hb dX10_kept_23 (by decide) ?_
  rw [hQ9]
  exact rr_i hx hb hr hlocks rfl hS dX10_kept_24
abbrev cX10_act : ByteArray := prog_1_method_14_code
def yX10_act : MethodName := ⟨RX10, "act", "(II)I"⟩
theorem t758 : Cond.code yX10_act cX10_act 3 (some .int) ∈ GW := gw_mem 872 (by decide +kernel) (by decide +kernel)
theorem dX10_act_0 : decode cX10_act 0 = .ok (.aload_n 0, 1) := by decide +kernel
theorem dX10_act_1 : decode cX10_act 1 = .ok (.iload_n 1, 1) := by decide +kernel
theorem dX10_act_2 : decode cX10_act 2 = .ok (.invokevirtual 128, 3) := by decide +kernel
theorem dX10_act_5 : decode cX10_act 5 = .ok (.ifCond .eq 11, 3) := by decide +kernel
theorem dX10_act_16 : decode cX10_act 16 = .ok (.iconst (-1), 1) := by decide +kernel
theorem dX10_act_17 : decode cX10_act 17 = .ok (.ireturn, 1) := by decide +kernel
set_option maxHeartbeats 4000000 in
set_option maxRecDepth 100000 in
theorem k_act (l : Launch) (dC : Nat → ClassId) (dI : Nat → Nat → Nat) (cy : Nat → ClassId) (ad : Nat → Nat) (n0 : Int32) (n1 : Int32)  : Met l yX10_act (wl yX10_act cX10_act 3 (some .int)) ({ frames := 1, cells := 0, slots := 0, locals := 64 }) (Pr (dC, dI) vwCl cy [(ad 0, .inr (11, [.ref (ad 1), .ref (ad 4), .ref (ad 5), .ref (ad 10), .ref (ad 23), .ref (ad 24), .ref (ad 25), .ref (ad 27), .ref (ad 28), .ref (ad 29), .ref (ad 30), .ref (ad 31), .ref (ad 54), .int 0, .int (-1), .int 0, .int 0])), (ad 31, .inr (10, [.ref (ad 32), .ref (ad 38), .ref (ad 49)])), (ad 32, .inr (2, [.ref (ad 33), .ref (ad 34), .ref (ad 35), .ref (ad 36), .ref (ad 37), .int 0, .int 0, .int 60, .int 10]))] [.ref (ad 0), .int n0, .int n1]) (Ri (fun r => r = (-1))) 0 0 (fun _ => False) := by
  refine mr RX10 rfl (by decide +kernel) (Nat.le_of_ble_eq_true rfl) ?_
  intro p e s m below meth c hx hb hr hlocks av9 hav hts hown hml hK hP hS Q9 hQ9 ls hl
  have hl : lv_has ls 3 [(0, .ref (ad 0)), (1, .int n0), (2, .int n1)] := hl
  refine lv_aload_n hx hb dX10_act_0 rfl (lv_at hl 0 rfl) ?_
  refine lv_iload_n hx hb dX10_act_1 rfl (lv_at hl 1 rfl) ?_
  refine jr_i (rVr (As := [.int n0]) (rest := []) (ci := 11) ⟨hx, hb, hml, hown, hts⟩ (k_isMan l dC dI cy ad n0 ) (cw_X10_128 hts rfl rfl ⟨Nat.le_of_ble_eq_true rfl, Nat.le_of_ble_eq_true rfl⟩) hP hK [0, 1, 2] rfl rfl rfl rfl hl.1 rfl (Nat.le_of_ble_eq_true rfl) dX10_act_2 ⟨Nat.le_of_ble_eq_true rfl, Nat.le_of_ble_eq_true rfl⟩) hP hS (fun r_1 H locs hp_2 hP hS => ?_)
  refine as_i 0 hp_2 ?_
  refine lv_if_eq (tgt := 16) hx hb dX10_act_5 (by decide) (fun _ => ?_) (fun c9 => absurd (by decide) c9)
  refine lv_iconst (v := (-1)) hx hb dX10_act_16 (by decide) ?_
  rw [hQ9]
  exact rr_i hx hb hr hlocks rfl hS dX10_act_17
abbrev cX10_lend : ByteArray := prog_1_method_15_code
def yX10_lend : MethodName := ⟨RX10, "lend", "(III)I"⟩
theorem t788 : Cond.code yX10_lend cX10_lend 4 (some .int) ∈ GW := gw_mem 902 (by decide +kernel) (by decide +kernel)
theorem dX10_lend_0 : decode cX10_lend 0 = .ok (.aload_n 0, 1) := by decide +kernel
theorem dX10_lend_1 : decode cX10_lend 1 = .ok (.iload_n 1, 1) := by decide +kernel
theorem dX10_lend_2 : decode cX10_lend 2 = .ok (.invokevirtual 128, 3) := by decide +kernel
theorem dX10_lend_5 : decode cX10_lend 5 = .ok (.ifCond .eq 19, 3) := by decide +kernel
theorem dX10_lend_24 : decode cX10_lend 24 = .ok (.iconst (-1), 1) := by decide +kernel
theorem dX10_lend_25 : decode cX10_lend 25 = .ok (.ireturn, 1) := by decide +kernel
set_option maxHeartbeats 4000000 in
set_option maxRecDepth 100000 in
theorem k_lend (l : Launch) (dC : Nat → ClassId) (dI : Nat → Nat → Nat) (cy : Nat → ClassId) (ad : Nat → Nat) (n0 : Int32) (n1 : Int32) (n2 : Int32)  : Met l yX10_lend (wl yX10_lend cX10_lend 4 (some .int)) ({ frames := 1, cells := 0, slots := 0, locals := 64 }) (Pr (dC, dI) vwCl cy [(ad 0, .inr (11, [.ref (ad 1), .ref (ad 4), .ref (ad 5), .ref (ad 10), .ref (ad 23), .ref (ad 24), .ref (ad 25), .ref (ad 27), .ref (ad 28), .ref (ad 29), .ref (ad 30), .ref (ad 31), .ref (ad 54), .int 0, .int (-1), .int 0, .int 0])), (ad 31, .inr (10, [.ref (ad 32), .ref (ad 38), .ref (ad 49)])), (ad 32, .inr (2, [.ref (ad 33), .ref (ad 34), .ref (ad 35), .ref (ad 36), .ref (ad 37), .int 0, .int 0, .int 60, .int 10]))] [.ref (ad 0), .int n0, .int n1, .int n2]) (Ri (fun r => r = (-1))) 0 0 (fun _ => False) := by
  refine mr RX10 rfl (by decide +kernel) (Nat.le_of_ble_eq_true rfl) ?_
  intro p e s m below meth c hx hb hr hlocks av9 hav hts hown hml hK hP hS Q9 hQ9 ls hl
  have hl : lv_has ls 4 [(0, .ref (ad 0)), (1, .int n0), (2, .int n1), (3, .int n2)] := hl
  refine lv_aload_n hx hb dX10_lend_0 rfl (lv_at hl 0 rfl) ?_
  refine lv_iload_n hx hb dX10_lend_1 rfl (lv_at hl 1 rfl) ?_
  refine jr_i (rVr (As := [.int n0]) (rest := []) (ci := 11) ⟨hx, hb, hml, hown, hts⟩ (k_isMan l dC dI cy ad n0 ) (cw_X10_128 hts rfl rfl ⟨Nat.le_of_ble_eq_true rfl, Nat.le_of_ble_eq_true rfl⟩) hP hK [0, 1, 2] rfl rfl rfl rfl hl.1 rfl (Nat.le_of_ble_eq_true rfl) dX10_lend_2 ⟨Nat.le_of_ble_eq_true rfl, Nat.le_of_ble_eq_true rfl⟩) hP hS (fun r_1 H locs hp_2 hP hS => ?_)
  refine as_i 0 hp_2 ?_
  refine lv_if_eq (tgt := 24) hx hb dX10_lend_5 (by decide) (fun _ => ?_) (fun c9 => absurd (by decide) c9)
  refine lv_iconst (v := (-1)) hx hb dX10_lend_24 (by decide) ?_
  rw [hQ9]
  exact rr_i hx hb hr hlocks rfl hS dX10_lend_25
abbrev cX10_back : ByteArray := prog_1_method_16_code
def yX10_back : MethodName := ⟨RX10, "back", "(I)I"⟩
theorem t797 : Cond.code yX10_back cX10_back 2 (some .int) ∈ GW := gw_mem 911 (by decide +kernel) (by decide +kernel)
theorem dX10_back_0 : decode cX10_back 0 = .ok (.aload_n 0, 1) := by decide +kernel
theorem dX10_back_1 : decode cX10_back 1 = .ok (.iload_n 1, 1) := by decide +kernel
theorem dX10_back_2 : decode cX10_back 2 = .ok (.invokevirtual 128, 3) := by decide +kernel
theorem dX10_back_5 : decode cX10_back 5 = .ok (.ifCond .ne 5, 3) := by decide +kernel
theorem dX10_back_8 : decode cX10_back 8 = .ok (.iconst (-1), 1) := by decide +kernel
theorem dX10_back_9 : decode cX10_back 9 = .ok (.ireturn, 1) := by decide +kernel
set_option maxHeartbeats 4000000 in
set_option maxRecDepth 100000 in
theorem k_back (l : Launch) (dC : Nat → ClassId) (dI : Nat → Nat → Nat) (cy : Nat → ClassId) (ad : Nat → Nat) (n0 : Int32)  : Met l yX10_back (wl yX10_back cX10_back 2 (some .int)) ({ frames := 1, cells := 0, slots := 0, locals := 64 }) (Pr (dC, dI) vwCl cy [(ad 0, .inr (11, [.ref (ad 1), .ref (ad 4), .ref (ad 5), .ref (ad 10), .ref (ad 23), .ref (ad 24), .ref (ad 25), .ref (ad 27), .ref (ad 28), .ref (ad 29), .ref (ad 30), .ref (ad 31), .ref (ad 54), .int 0, .int (-1), .int 0, .int 0])), (ad 31, .inr (10, [.ref (ad 32), .ref (ad 38), .ref (ad 49)])), (ad 32, .inr (2, [.ref (ad 33), .ref (ad 34), .ref (ad 35), .ref (ad 36), .ref (ad 37), .int 0, .int 0, .int 60, .int 10]))] [.ref (ad 0), .int n0]) (Ri (fun r => r = (-1))) 0 0 (fun _ => False) := by
  refine mr RX10 rfl (by decide +kernel) (Nat.le_of_ble_eq_true rfl) ?_
  intro p e s m below meth c hx hb hr hlocks av9 hav hts hown hml hK hP hS Q9 hQ9 ls hl
  have hl : lv_has ls 2 [(0, .ref (ad 0)), (1, .int n0)] := hl
  refine lv_aload_n hx hb dX10_back_0 rfl (lv_at hl 0 rfl) ?_
  refine lv_iload_n hx hb dX10_back_1 rfl (lv_at hl 1 rfl) ?_
  refine jr_i (rVr (As := [.int n0]) (rest := []) (ci := 11) ⟨hx, hb, hml, hown, hts⟩ (k_isMan l dC dI cy ad n0 ) (cw_X10_128 hts rfl rfl ⟨Nat.le_of_ble_eq_true rfl, Nat.le_of_ble_eq_true rfl⟩) hP hK [0, 1, 2] rfl rfl rfl rfl hl.1 rfl (Nat.le_of_ble_eq_true rfl) dX10_back_2 ⟨Nat.le_of_ble_eq_true rfl, Nat.le_of_ble_eq_true rfl⟩) hP hS (fun r_1 H locs hp_2 hP hS => ?_)
  refine as_i 0 hp_2 ?_
  refine lv_if_ne (tgt := 10) hx hb dX10_back_5 (by decide) (fun c9 => absurd c9 (by decide)) (fun _ => ?_)
  refine lv_iconst (v := (-1)) hx hb dX10_back_8 (by decide) ?_
  rw [hQ9]
  exact rr_i hx hb hr hlocks rfl hS dX10_back_9
abbrev cX10_borrow : ByteArray := prog_1_method_17_code
def yX10_borrow : MethodName := ⟨RX10, "borrow", "(III)I"⟩
theorem t805 : Cond.code yX10_borrow cX10_borrow 4 (some .int) ∈ GW := gw_mem 919 (by decide +kernel) (by decide +kernel)
theorem dX10_borrow_0 : decode cX10_borrow 0 = .ok (.aload_n 0, 1) := by decide +kernel
theorem dX10_borrow_1 : decode cX10_borrow 1 = .ok (.iload_n 1, 1) := by decide +kernel
theorem dX10_borrow_2 : decode cX10_borrow 2 = .ok (.invokevirtual 128, 3) := by decide +kernel
theorem dX10_borrow_5 : decode cX10_borrow 5 = .ok (.ifCond .eq 18, 3) := by decide +kernel
theorem dX10_borrow_23 : decode cX10_borrow 23 = .ok (.iconst (-1), 1) := by decide +kernel
theorem dX10_borrow_24 : decode cX10_borrow 24 = .ok (.ireturn, 1) := by decide +kernel
set_option maxHeartbeats 4000000 in
set_option maxRecDepth 100000 in
theorem k_borrow (l : Launch) (dC : Nat → ClassId) (dI : Nat → Nat → Nat) (cy : Nat → ClassId) (ad : Nat → Nat) (n0 : Int32) (n1 : Int32) (n2 : Int32)  : Met l yX10_borrow (wl yX10_borrow cX10_borrow 4 (some .int)) ({ frames := 1, cells := 0, slots := 0, locals := 64 }) (Pr (dC, dI) vwCl cy [(ad 0, .inr (11, [.ref (ad 1), .ref (ad 4), .ref (ad 5), .ref (ad 10), .ref (ad 23), .ref (ad 24), .ref (ad 25), .ref (ad 27), .ref (ad 28), .ref (ad 29), .ref (ad 30), .ref (ad 31), .ref (ad 54), .int 0, .int (-1), .int 0, .int 0])), (ad 31, .inr (10, [.ref (ad 32), .ref (ad 38), .ref (ad 49)])), (ad 32, .inr (2, [.ref (ad 33), .ref (ad 34), .ref (ad 35), .ref (ad 36), .ref (ad 37), .int 0, .int 0, .int 60, .int 10]))] [.ref (ad 0), .int n0, .int n1, .int n2]) (Ri (fun r => r = (-1))) 0 0 (fun _ => False) := by
  refine mr RX10 rfl (by decide +kernel) (Nat.le_of_ble_eq_true rfl) ?_
  intro p e s m below meth c hx hb hr hlocks av9 hav hts hown hml hK hP hS Q9 hQ9 ls hl
  have hl : lv_has ls 4 [(0, .ref (ad 0)), (1, .int n0), (2, .int n1), (3, .int n2)] := hl
  refine lv_aload_n hx hb dX10_borrow_0 rfl (lv_at hl 0 rfl) ?_
  refine lv_iload_n hx hb dX10_borrow_1 rfl (lv_at hl 1 rfl) ?_
  refine jr_i (rVr (As := [.int n0]) (rest := []) (ci := 11) ⟨hx, hb, hml, hown, hts⟩ (k_isMan l dC dI cy ad n0 ) (cw_X10_128 hts rfl rfl ⟨Nat.le_of_ble_eq_true rfl, Nat.le_of_ble_eq_true rfl⟩) hP hK [0, 1, 2] rfl rfl rfl rfl hl.1 rfl (Nat.le_of_ble_eq_true rfl) dX10_borrow_2 ⟨Nat.le_of_ble_eq_true rfl, Nat.le_of_ble_eq_true rfl⟩) hP hS (fun r_1 H locs hp_2 hP hS => ?_)
  refine as_i 0 hp_2 ?_
  refine lv_if_eq (tgt := 23) hx hb dX10_borrow_5 (by decide) (fun _ => ?_) (fun c9 => absurd (by decide) c9)
  refine lv_iconst (v := (-1)) hx hb dX10_borrow_23 (by decide) ?_
  rw [hQ9]
  exact rr_i hx hb hr hlocks rfl hS dX10_borrow_24
abbrev cX10_pay : ByteArray := prog_1_method_18_code
def yX10_pay : MethodName := ⟨RX10, "pay", "(III)I"⟩
theorem t816 : Cond.code yX10_pay cX10_pay 4 (some .int) ∈ GW := gw_mem 930 (by decide +kernel) (by decide +kernel)
theorem dX10_pay_0 : decode cX10_pay 0 = .ok (.aload_n 0, 1) := by decide +kernel
theorem dX10_pay_1 : decode cX10_pay 1 = .ok (.iload_n 1, 1) := by decide +kernel
theorem dX10_pay_2 : decode cX10_pay 2 = .ok (.invokevirtual 128, 3) := by decide +kernel
theorem dX10_pay_5 : decode cX10_pay 5 = .ok (.ifCond .eq 18, 3) := by decide +kernel
theorem dX10_pay_23 : decode cX10_pay 23 = .ok (.iconst (-1), 1) := by decide +kernel
theorem dX10_pay_24 : decode cX10_pay 24 = .ok (.ireturn, 1) := by decide +kernel
set_option maxHeartbeats 4000000 in
set_option maxRecDepth 100000 in
theorem k_pay (l : Launch) (dC : Nat → ClassId) (dI : Nat → Nat → Nat) (cy : Nat → ClassId) (ad : Nat → Nat) (n0 : Int32) (n1 : Int32) (n2 : Int32)  : Met l yX10_pay (wl yX10_pay cX10_pay 4 (some .int)) ({ frames := 1, cells := 0, slots := 0, locals := 64 }) (Pr (dC, dI) vwCl cy [(ad 0, .inr (11, [.ref (ad 1), .ref (ad 4), .ref (ad 5), .ref (ad 10), .ref (ad 23), .ref (ad 24), .ref (ad 25), .ref (ad 27), .ref (ad 28), .ref (ad 29), .ref (ad 30), .ref (ad 31), .ref (ad 54), .int 0, .int (-1), .int 0, .int 0])), (ad 31, .inr (10, [.ref (ad 32), .ref (ad 38), .ref (ad 49)])), (ad 32, .inr (2, [.ref (ad 33), .ref (ad 34), .ref (ad 35), .ref (ad 36), .ref (ad 37), .int 0, .int 0, .int 60, .int 10]))] [.ref (ad 0), .int n0, .int n1, .int n2]) (Ri (fun r => r = (-1))) 0 0 (fun _ => False) := by
  refine mr RX10 rfl (by decide +kernel) (Nat.le_of_ble_eq_true rfl) ?_
  intro p e s m below meth c hx hb hr hlocks av9 hav hts hown hml hK hP hS Q9 hQ9 ls hl
  have hl : lv_has ls 4 [(0, .ref (ad 0)), (1, .int n0), (2, .int n1), (3, .int n2)] := hl
  refine lv_aload_n hx hb dX10_pay_0 rfl (lv_at hl 0 rfl) ?_
  refine lv_iload_n hx hb dX10_pay_1 rfl (lv_at hl 1 rfl) ?_
  refine jr_i (rVr (As := [.int n0]) (rest := []) (ci := 11) ⟨hx, hb, hml, hown, hts⟩ (k_isMan l dC dI cy ad n0 ) (cw_X10_128 hts rfl rfl ⟨Nat.le_of_ble_eq_true rfl, Nat.le_of_ble_eq_true rfl⟩) hP hK [0, 1, 2] rfl rfl rfl rfl hl.1 rfl (Nat.le_of_ble_eq_true rfl) dX10_pay_2 ⟨Nat.le_of_ble_eq_true rfl, Nat.le_of_ble_eq_true rfl⟩) hP hS (fun r_1 H locs hp_2 hP hS => ?_)
  refine as_i 0 hp_2 ?_
  refine lv_if_eq (tgt := 23) hx hb dX10_pay_5 (by decide) (fun _ => ?_) (fun c9 => absurd (by decide) c9)
  refine lv_iconst (v := (-1)) hx hb dX10_pay_23 (by decide) ?_
  rw [hQ9]
  exact rr_i hx hb hr hlocks rfl hS dX10_pay_24
abbrev cX10_sit : ByteArray := prog_1_method_19_code
def yX10_sit : MethodName := ⟨RX10, "sit", "(I)I"⟩
theorem t824 : Cond.code yX10_sit cX10_sit 2 (some .int) ∈ GW := gw_mem 938 (by decide +kernel) (by decide +kernel)
theorem dX10_sit_0 : decode cX10_sit 0 = .ok (.aload_n 0, 1) := by decide +kernel
theorem dX10_sit_1 : decode cX10_sit 1 = .ok (.iload_n 1, 1) := by decide +kernel
theorem dX10_sit_2 : decode cX10_sit 2 = .ok (.invokevirtual 128, 3) := by decide +kernel
theorem dX10_sit_5 : decode cX10_sit 5 = .ok (.ifCond .ne 5, 3) := by decide +kernel
theorem dX10_sit_8 : decode cX10_sit 8 = .ok (.iconst (-1), 1) := by decide +kernel
theorem dX10_sit_9 : decode cX10_sit 9 = .ok (.ireturn, 1) := by decide +kernel
set_option maxHeartbeats 4000000 in
set_option maxRecDepth 100000 in
theorem k_sit (l : Launch) (dC : Nat → ClassId) (dI : Nat → Nat → Nat) (cy : Nat → ClassId) (ad : Nat → Nat) (n0 : Int32)  : Met l yX10_sit (wl yX10_sit cX10_sit 2 (some .int)) ({ frames := 1, cells := 0, slots := 0, locals := 64 }) (Pr (dC, dI) vwCl cy [(ad 0, .inr (11, [.ref (ad 1), .ref (ad 4), .ref (ad 5), .ref (ad 10), .ref (ad 23), .ref (ad 24), .ref (ad 25), .ref (ad 27), .ref (ad 28), .ref (ad 29), .ref (ad 30), .ref (ad 31), .ref (ad 54), .int 0, .int (-1), .int 0, .int 0])), (ad 31, .inr (10, [.ref (ad 32), .ref (ad 38), .ref (ad 49)])), (ad 32, .inr (2, [.ref (ad 33), .ref (ad 34), .ref (ad 35), .ref (ad 36), .ref (ad 37), .int 0, .int 0, .int 60, .int 10]))] [.ref (ad 0), .int n0]) (Ri (fun r => r = (-1))) 0 0 (fun _ => False) := by
  refine mr RX10 rfl (by decide +kernel) (Nat.le_of_ble_eq_true rfl) ?_
  intro p e s m below meth c hx hb hr hlocks av9 hav hts hown hml hK hP hS Q9 hQ9 ls hl
  have hl : lv_has ls 2 [(0, .ref (ad 0)), (1, .int n0)] := hl
  refine lv_aload_n hx hb dX10_sit_0 rfl (lv_at hl 0 rfl) ?_
  refine lv_iload_n hx hb dX10_sit_1 rfl (lv_at hl 1 rfl) ?_
  refine jr_i (rVr (As := [.int n0]) (rest := []) (ci := 11) ⟨hx, hb, hml, hown, hts⟩ (k_isMan l dC dI cy ad n0 ) (cw_X10_128 hts rfl rfl ⟨Nat.le_of_ble_eq_true rfl, Nat.le_of_ble_eq_true rfl⟩) hP hK [0, 1, 2] rfl rfl rfl rfl hl.1 rfl (Nat.le_of_ble_eq_true rfl) dX10_sit_2 ⟨Nat.le_of_ble_eq_true rfl, Nat.le_of_ble_eq_true rfl⟩) hP hS (fun r_1 H locs hp_2 hP hS => ?_)
  refine as_i 0 hp_2 ?_
  refine lv_if_ne (tgt := 10) hx hb dX10_sit_5 (by decide) (fun c9 => absurd c9 (by decide)) (fun _ => ?_)
  refine lv_iconst (v := (-1)) hx hb dX10_sit_8 (by decide) ?_
  rw [hQ9]
  exact rr_i hx hb hr hlocks rfl hS dX10_sit_9
abbrev cX10_family : ByteArray := prog_1_method_22_code
def yX10_family : MethodName := ⟨RX10, "family", "(I)I"⟩
theorem t853 : Cond.code yX10_family cX10_family 2 (some .int) ∈ GW := gw_mem 967 (by decide +kernel) (by decide +kernel)
theorem dX10_family_0 : decode cX10_family 0 = .ok (.aload_n 0, 1) := by decide +kernel
theorem dX10_family_1 : decode cX10_family 1 = .ok (.iload_n 1, 1) := by decide +kernel
theorem dX10_family_2 : decode cX10_family 2 = .ok (.invokevirtual 128, 3) := by decide +kernel
theorem dX10_family_5 : decode cX10_family 5 = .ok (.ifCond .eq 17, 3) := by decide +kernel
theorem dX10_family_22 : decode cX10_family 22 = .ok (.iconst (-1), 1) := by decide +kernel
theorem dX10_family_23 : decode cX10_family 23 = .ok (.ireturn, 1) := by decide +kernel
set_option maxHeartbeats 4000000 in
set_option maxRecDepth 100000 in
theorem k_family (l : Launch) (dC : Nat → ClassId) (dI : Nat → Nat → Nat) (cy : Nat → ClassId) (ad : Nat → Nat) (n0 : Int32)  : Met l yX10_family (wl yX10_family cX10_family 2 (some .int)) ({ frames := 1, cells := 0, slots := 0, locals := 64 }) (Pr (dC, dI) vwCl cy [(ad 0, .inr (11, [.ref (ad 1), .ref (ad 4), .ref (ad 5), .ref (ad 10), .ref (ad 23), .ref (ad 24), .ref (ad 25), .ref (ad 27), .ref (ad 28), .ref (ad 29), .ref (ad 30), .ref (ad 31), .ref (ad 54), .int 0, .int (-1), .int 0, .int 0])), (ad 31, .inr (10, [.ref (ad 32), .ref (ad 38), .ref (ad 49)])), (ad 32, .inr (2, [.ref (ad 33), .ref (ad 34), .ref (ad 35), .ref (ad 36), .ref (ad 37), .int 0, .int 0, .int 60, .int 10]))] [.ref (ad 0), .int n0]) (Ri (fun r => r = (-1))) 0 0 (fun _ => False) := by
  refine mr RX10 rfl (by decide +kernel) (Nat.le_of_ble_eq_true rfl) ?_
  intro p e s m below meth c hx hb hr hlocks av9 hav hts hown hml hK hP hS Q9 hQ9 ls hl
  have hl : lv_has ls 2 [(0, .ref (ad 0)), (1, .int n0)] := hl
  refine lv_aload_n hx hb dX10_family_0 rfl (lv_at hl 0 rfl) ?_
  refine lv_iload_n hx hb dX10_family_1 rfl (lv_at hl 1 rfl) ?_
  refine jr_i (rVr (As := [.int n0]) (rest := []) (ci := 11) ⟨hx, hb, hml, hown, hts⟩ (k_isMan l dC dI cy ad n0 ) (cw_X10_128 hts rfl rfl ⟨Nat.le_of_ble_eq_true rfl, Nat.le_of_ble_eq_true rfl⟩) hP hK [0, 1, 2] rfl rfl rfl rfl hl.1 rfl (Nat.le_of_ble_eq_true rfl) dX10_family_2 ⟨Nat.le_of_ble_eq_true rfl, Nat.le_of_ble_eq_true rfl⟩) hP hS (fun r_1 H locs hp_2 hP hS => ?_)
  refine as_i 0 hp_2 ?_
  refine lv_if_eq (tgt := 22) hx hb dX10_family_5 (by decide) (fun _ => ?_) (fun c9 => absurd (by decide) c9)
  refine lv_iconst (v := (-1)) hx hb dX10_family_22 (by decide) ?_
  rw [hQ9]
  exact rr_i hx hb hr hlocks rfl hS dX10_family_23
abbrev cX10_help : ByteArray := prog_1_method_24_code
def yX10_help : MethodName := ⟨RX10, "help", "(I)I"⟩
theorem t873 : Cond.code yX10_help cX10_help 3 (some .int) ∈ GW := gw_mem 987 (by decide +kernel) (by decide +kernel)
theorem dX10_help_0 : decode cX10_help 0 = .ok (.aload_n 0, 1) := by decide +kernel
theorem dX10_help_1 : decode cX10_help 1 = .ok (.iload_n 1, 1) := by decide +kernel
theorem dX10_help_2 : decode cX10_help 2 = .ok (.invokevirtual 128, 3) := by decide +kernel
theorem dX10_help_5 : decode cX10_help 5 = .ok (.ifCond .ne 5, 3) := by decide +kernel
theorem dX10_help_8 : decode cX10_help 8 = .ok (.iconst (-1), 1) := by decide +kernel
theorem dX10_help_9 : decode cX10_help 9 = .ok (.ireturn, 1) := by decide +kernel
set_option maxHeartbeats 4000000 in
set_option maxRecDepth 100000 in
theorem k_help (l : Launch) (dC : Nat → ClassId) (dI : Nat → Nat → Nat) (cy : Nat → ClassId) (ad : Nat → Nat) (n0 : Int32)  : Met l yX10_help (wl yX10_help cX10_help 3 (some .int)) ({ frames := 1, cells := 0, slots := 0, locals := 64 }) (Pr (dC, dI) vwCl cy [(ad 0, .inr (11, [.ref (ad 1), .ref (ad 4), .ref (ad 5), .ref (ad 10), .ref (ad 23), .ref (ad 24), .ref (ad 25), .ref (ad 27), .ref (ad 28), .ref (ad 29), .ref (ad 30), .ref (ad 31), .ref (ad 54), .int 0, .int (-1), .int 0, .int 0])), (ad 31, .inr (10, [.ref (ad 32), .ref (ad 38), .ref (ad 49)])), (ad 32, .inr (2, [.ref (ad 33), .ref (ad 34), .ref (ad 35), .ref (ad 36), .ref (ad 37), .int 0, .int 0, .int 60, .int 10]))] [.ref (ad 0), .int n0]) (Ri (fun r => r = (-1))) 0 0 (fun _ => False) := by
  refine mr RX10 rfl (by decide +kernel) (Nat.le_of_ble_eq_true rfl) ?_
  intro p e s m below meth c hx hb hr hlocks av9 hav hts hown hml hK hP hS Q9 hQ9 ls hl
  have hl : lv_has ls 3 [(0, .ref (ad 0)), (1, .int n0)] := hl
  refine lv_aload_n hx hb dX10_help_0 rfl (lv_at hl 0 rfl) ?_
  refine lv_iload_n hx hb dX10_help_1 rfl (lv_at hl 1 rfl) ?_
  refine jr_i (rVr (As := [.int n0]) (rest := []) (ci := 11) ⟨hx, hb, hml, hown, hts⟩ (k_isMan l dC dI cy ad n0 ) (cw_X10_128 hts rfl rfl ⟨Nat.le_of_ble_eq_true rfl, Nat.le_of_ble_eq_true rfl⟩) hP hK [0, 1, 2] rfl rfl rfl rfl hl.1 rfl (Nat.le_of_ble_eq_true rfl) dX10_help_2 ⟨Nat.le_of_ble_eq_true rfl, Nat.le_of_ble_eq_true rfl⟩) hP hS (fun r_1 H locs hp_2 hP hS => ?_)
  refine as_i 0 hp_2 ?_
  refine lv_if_ne (tgt := 10) hx hb dX10_help_5 (by decide) (fun c9 => absurd c9 (by decide)) (fun _ => ?_)
  refine lv_iconst (v := (-1)) hx hb dX10_help_8 (by decide) ?_
  rw [hQ9]
  exact rr_i hx hb hr hlocks rfl hS dX10_help_9
abbrev cX10_career : ByteArray := prog_1_method_28_code
def yX10_career : MethodName := ⟨RX10, "career", "(II)I"⟩
theorem t951 : Cond.code yX10_career cX10_career 6 (some .int) ∈ GW := gw_mem 1065 (by decide +kernel) (by decide +kernel)
theorem dX10_career_0 : decode cX10_career 0 = .ok (.aload_n 0, 1) := by decide +kernel
theorem dX10_career_1 : decode cX10_career 1 = .ok (.iload_n 1, 1) := by decide +kernel
theorem dX10_career_2 : decode cX10_career 2 = .ok (.invokevirtual 128, 3) := by decide +kernel
theorem dX10_career_5 : decode cX10_career 5 = .ok (.ifCond .eq 13, 3) := by decide +kernel
theorem dX10_career_18 : decode cX10_career 18 = .ok (.iconst (-1), 1) := by decide +kernel
theorem dX10_career_19 : decode cX10_career 19 = .ok (.ireturn, 1) := by decide +kernel
set_option maxHeartbeats 4000000 in
set_option maxRecDepth 100000 in
theorem k_career (l : Launch) (dC : Nat → ClassId) (dI : Nat → Nat → Nat) (cy : Nat → ClassId) (ad : Nat → Nat) (n0 : Int32) (n1 : Int32)  : Met l yX10_career (wl yX10_career cX10_career 6 (some .int)) ({ frames := 1, cells := 0, slots := 0, locals := 64 }) (Pr (dC, dI) vwCl cy [(ad 0, .inr (11, [.ref (ad 1), .ref (ad 4), .ref (ad 5), .ref (ad 10), .ref (ad 23), .ref (ad 24), .ref (ad 25), .ref (ad 27), .ref (ad 28), .ref (ad 29), .ref (ad 30), .ref (ad 31), .ref (ad 54), .int 0, .int (-1), .int 0, .int 0])), (ad 31, .inr (10, [.ref (ad 32), .ref (ad 38), .ref (ad 49)])), (ad 32, .inr (2, [.ref (ad 33), .ref (ad 34), .ref (ad 35), .ref (ad 36), .ref (ad 37), .int 0, .int 0, .int 60, .int 10]))] [.ref (ad 0), .int n0, .int n1]) (Ri (fun r => r = (-1))) 0 0 (fun _ => False) := by
  refine mr RX10 rfl (by decide +kernel) (Nat.le_of_ble_eq_true rfl) ?_
  intro p e s m below meth c hx hb hr hlocks av9 hav hts hown hml hK hP hS Q9 hQ9 ls hl
  have hl : lv_has ls 6 [(0, .ref (ad 0)), (1, .int n0), (2, .int n1)] := hl
  refine lv_aload_n hx hb dX10_career_0 rfl (lv_at hl 0 rfl) ?_
  refine lv_iload_n hx hb dX10_career_1 rfl (lv_at hl 1 rfl) ?_
  refine jr_i (rVr (As := [.int n0]) (rest := []) (ci := 11) ⟨hx, hb, hml, hown, hts⟩ (k_isMan l dC dI cy ad n0 ) (cw_X10_128 hts rfl rfl ⟨Nat.le_of_ble_eq_true rfl, Nat.le_of_ble_eq_true rfl⟩) hP hK [0, 1, 2] rfl rfl rfl rfl hl.1 rfl (Nat.le_of_ble_eq_true rfl) dX10_career_2 ⟨Nat.le_of_ble_eq_true rfl, Nat.le_of_ble_eq_true rfl⟩) hP hS (fun r_1 H locs hp_2 hP hS => ?_)
  refine as_i 0 hp_2 ?_
  refine lv_if_eq (tgt := 18) hx hb dX10_career_5 (by decide) (fun _ => ?_) (fun c9 => absurd (by decide) c9)
  refine lv_iconst (v := (-1)) hx hb dX10_career_18 (by decide) ?_
  rw [hQ9]
  exact rr_i hx hb hr hlocks rfl hS dX10_career_19
abbrev cX10_hide : ByteArray := prog_1_method_30_code
def yX10_hide : MethodName := ⟨RX10, "hide", "(I)I"⟩
theorem t964 : Cond.code yX10_hide cX10_hide 3 (some .int) ∈ GW := gw_mem 1078 (by decide +kernel) (by decide +kernel)
theorem dX10_hide_0 : decode cX10_hide 0 = .ok (.aload_n 0, 1) := by decide +kernel
theorem dX10_hide_1 : decode cX10_hide 1 = .ok (.iload_n 1, 1) := by decide +kernel
theorem dX10_hide_2 : decode cX10_hide 2 = .ok (.invokevirtual 128, 3) := by decide +kernel
theorem dX10_hide_5 : decode cX10_hide 5 = .ok (.ifCond .ne 5, 3) := by decide +kernel
theorem dX10_hide_8 : decode cX10_hide 8 = .ok (.iconst (-1), 1) := by decide +kernel
theorem dX10_hide_9 : decode cX10_hide 9 = .ok (.ireturn, 1) := by decide +kernel
set_option maxHeartbeats 4000000 in
set_option maxRecDepth 100000 in
theorem k_hide (l : Launch) (dC : Nat → ClassId) (dI : Nat → Nat → Nat) (cy : Nat → ClassId) (ad : Nat → Nat) (n0 : Int32)  : Met l yX10_hide (wl yX10_hide cX10_hide 3 (some .int)) ({ frames := 1, cells := 0, slots := 0, locals := 64 }) (Pr (dC, dI) vwCl cy [(ad 0, .inr (11, [.ref (ad 1), .ref (ad 4), .ref (ad 5), .ref (ad 10), .ref (ad 23), .ref (ad 24), .ref (ad 25), .ref (ad 27), .ref (ad 28), .ref (ad 29), .ref (ad 30), .ref (ad 31), .ref (ad 54), .int 0, .int (-1), .int 0, .int 0])), (ad 31, .inr (10, [.ref (ad 32), .ref (ad 38), .ref (ad 49)])), (ad 32, .inr (2, [.ref (ad 33), .ref (ad 34), .ref (ad 35), .ref (ad 36), .ref (ad 37), .int 0, .int 0, .int 60, .int 10]))] [.ref (ad 0), .int n0]) (Ri (fun r => r = (-1))) 0 0 (fun _ => False) := by
  refine mr RX10 rfl (by decide +kernel) (Nat.le_of_ble_eq_true rfl) ?_
  intro p e s m below meth c hx hb hr hlocks av9 hav hts hown hml hK hP hS Q9 hQ9 ls hl
  have hl : lv_has ls 3 [(0, .ref (ad 0)), (1, .int n0)] := hl
  refine lv_aload_n hx hb dX10_hide_0 rfl (lv_at hl 0 rfl) ?_
  refine lv_iload_n hx hb dX10_hide_1 rfl (lv_at hl 1 rfl) ?_
  refine jr_i (rVr (As := [.int n0]) (rest := []) (ci := 11) ⟨hx, hb, hml, hown, hts⟩ (k_isMan l dC dI cy ad n0 ) (cw_X10_128 hts rfl rfl ⟨Nat.le_of_ble_eq_true rfl, Nat.le_of_ble_eq_true rfl⟩) hP hK [0, 1, 2] rfl rfl rfl rfl hl.1 rfl (Nat.le_of_ble_eq_true rfl) dX10_hide_2 ⟨Nat.le_of_ble_eq_true rfl, Nat.le_of_ble_eq_true rfl⟩) hP hS (fun r_1 H locs hp_2 hP hS => ?_)
  refine as_i 0 hp_2 ?_
  refine lv_if_ne (tgt := 10) hx hb dX10_hide_5 (by decide) (fun c9 => absurd c9 (by decide)) (fun _ => ?_)
  refine lv_iconst (v := (-1)) hx hb dX10_hide_8 (by decide) ?_
  rw [hQ9]
  exact rr_i hx hb hr hlocks rfl hS dX10_hide_9
abbrev cX10_caption : ByteArray := prog_1_method_32_code
def yX10_caption : MethodName := ⟨RX10, "caption", "(I)I"⟩
theorem t976 : Cond.code yX10_caption cX10_caption 3 (some .int) ∈ GW := gw_mem 1090 (by decide +kernel) (by decide +kernel)
theorem dX10_caption_0 : decode cX10_caption 0 = .ok (.aload_n 0, 1) := by decide +kernel
theorem dX10_caption_1 : decode cX10_caption 1 = .ok (.iload_n 1, 1) := by decide +kernel
theorem dX10_caption_2 : decode cX10_caption 2 = .ok (.invokevirtual 128, 3) := by decide +kernel
theorem dX10_caption_5 : decode cX10_caption 5 = .ok (.ifCond .ne 5, 3) := by decide +kernel
theorem dX10_caption_8 : decode cX10_caption 8 = .ok (.iconst (-1), 1) := by decide +kernel
theorem dX10_caption_9 : decode cX10_caption 9 = .ok (.ireturn, 1) := by decide +kernel
set_option maxHeartbeats 4000000 in
set_option maxRecDepth 100000 in
theorem k_caption (l : Launch) (dC : Nat → ClassId) (dI : Nat → Nat → Nat) (cy : Nat → ClassId) (ad : Nat → Nat) (n0 : Int32)  : Met l yX10_caption (wl yX10_caption cX10_caption 3 (some .int)) ({ frames := 1, cells := 0, slots := 0, locals := 64 }) (Pr (dC, dI) vwCl cy [(ad 0, .inr (11, [.ref (ad 1), .ref (ad 4), .ref (ad 5), .ref (ad 10), .ref (ad 23), .ref (ad 24), .ref (ad 25), .ref (ad 27), .ref (ad 28), .ref (ad 29), .ref (ad 30), .ref (ad 31), .ref (ad 54), .int 0, .int (-1), .int 0, .int 0])), (ad 31, .inr (10, [.ref (ad 32), .ref (ad 38), .ref (ad 49)])), (ad 32, .inr (2, [.ref (ad 33), .ref (ad 34), .ref (ad 35), .ref (ad 36), .ref (ad 37), .int 0, .int 0, .int 60, .int 10]))] [.ref (ad 0), .int n0]) (Ri (fun r => r = (-1))) 0 0 (fun _ => False) := by
  refine mr RX10 rfl (by decide +kernel) (Nat.le_of_ble_eq_true rfl) ?_
  intro p e s m below meth c hx hb hr hlocks av9 hav hts hown hml hK hP hS Q9 hQ9 ls hl
  have hl : lv_has ls 3 [(0, .ref (ad 0)), (1, .int n0)] := hl
  refine lv_aload_n hx hb dX10_caption_0 rfl (lv_at hl 0 rfl) ?_
  refine lv_iload_n hx hb dX10_caption_1 rfl (lv_at hl 1 rfl) ?_
  refine jr_i (rVr (As := [.int n0]) (rest := []) (ci := 11) ⟨hx, hb, hml, hown, hts⟩ (k_isMan l dC dI cy ad n0 ) (cw_X10_128 hts rfl rfl ⟨Nat.le_of_ble_eq_true rfl, Nat.le_of_ble_eq_true rfl⟩) hP hK [0, 1, 2] rfl rfl rfl rfl hl.1 rfl (Nat.le_of_ble_eq_true rfl) dX10_caption_2 ⟨Nat.le_of_ble_eq_true rfl, Nat.le_of_ble_eq_true rfl⟩) hP hS (fun r_1 H locs hp_2 hP hS => ?_)
  refine as_i 0 hp_2 ?_
  refine lv_if_ne (tgt := 10) hx hb dX10_caption_5 (by decide) (fun c9 => absurd c9 (by decide)) (fun _ => ?_)
  refine lv_iconst (v := (-1)) hx hb dX10_caption_8 (by decide) ?_
  rw [hQ9]
  exact rr_i hx hb hr hlocks rfl hS dX10_caption_9
abbrev cX10_odds : ByteArray := prog_1_method_35_code
def yX10_odds : MethodName := ⟨RX10, "odds", "(III)I"⟩
theorem t1189 : Cond.code yX10_odds cX10_odds 6 (some .int) ∈ GW := gw_mem 1303 (by decide +kernel) (by decide +kernel)
theorem dX10_odds_0 : decode cX10_odds 0 = .ok (.aload_n 0, 1) := by decide +kernel
theorem dX10_odds_1 : decode cX10_odds 1 = .ok (.iload_n 1, 1) := by decide +kernel
theorem dX10_odds_2 : decode cX10_odds 2 = .ok (.invokevirtual 128, 3) := by decide +kernel
theorem dX10_odds_5 : decode cX10_odds 5 = .ok (.ifCond .eq 14, 3) := by decide +kernel
theorem dX10_odds_19 : decode cX10_odds 19 = .ok (.iconst (-1), 1) := by decide +kernel
theorem dX10_odds_20 : decode cX10_odds 20 = .ok (.ireturn, 1) := by decide +kernel
set_option maxHeartbeats 4000000 in
set_option maxRecDepth 100000 in
theorem k_odds (l : Launch) (dC : Nat → ClassId) (dI : Nat → Nat → Nat) (cy : Nat → ClassId) (ad : Nat → Nat) (n0 : Int32) (n1 : Int32) (n2 : Int32)  : Met l yX10_odds (wl yX10_odds cX10_odds 6 (some .int)) ({ frames := 1, cells := 0, slots := 0, locals := 64 }) (Pr (dC, dI) vwCl cy [(ad 0, .inr (11, [.ref (ad 1), .ref (ad 4), .ref (ad 5), .ref (ad 10), .ref (ad 23), .ref (ad 24), .ref (ad 25), .ref (ad 27), .ref (ad 28), .ref (ad 29), .ref (ad 30), .ref (ad 31), .ref (ad 54), .int 0, .int (-1), .int 0, .int 0])), (ad 31, .inr (10, [.ref (ad 32), .ref (ad 38), .ref (ad 49)])), (ad 32, .inr (2, [.ref (ad 33), .ref (ad 34), .ref (ad 35), .ref (ad 36), .ref (ad 37), .int 0, .int 0, .int 60, .int 10]))] [.ref (ad 0), .int n0, .int n1, .int n2]) (Ri (fun r => r = (-1))) 0 0 (fun _ => False) := by
  refine mr RX10 rfl (by decide +kernel) (Nat.le_of_ble_eq_true rfl) ?_
  intro p e s m below meth c hx hb hr hlocks av9 hav hts hown hml hK hP hS Q9 hQ9 ls hl
  have hl : lv_has ls 6 [(0, .ref (ad 0)), (1, .int n0), (2, .int n1), (3, .int n2)] := hl
  refine lv_aload_n hx hb dX10_odds_0 rfl (lv_at hl 0 rfl) ?_
  refine lv_iload_n hx hb dX10_odds_1 rfl (lv_at hl 1 rfl) ?_
  refine jr_i (rVr (As := [.int n0]) (rest := []) (ci := 11) ⟨hx, hb, hml, hown, hts⟩ (k_isMan l dC dI cy ad n0 ) (cw_X10_128 hts rfl rfl ⟨Nat.le_of_ble_eq_true rfl, Nat.le_of_ble_eq_true rfl⟩) hP hK [0, 1, 2] rfl rfl rfl rfl hl.1 rfl (Nat.le_of_ble_eq_true rfl) dX10_odds_2 ⟨Nat.le_of_ble_eq_true rfl, Nat.le_of_ble_eq_true rfl⟩) hP hS (fun r_1 H locs hp_2 hP hS => ?_)
  refine as_i 0 hp_2 ?_
  refine lv_if_eq (tgt := 19) hx hb dX10_odds_5 (by decide) (fun _ => ?_) (fun c9 => absurd (by decide) c9)
  refine lv_iconst (v := (-1)) hx hb dX10_odds_19 (by decide) ?_
  rw [hQ9]
  exact rr_i hx hb hr hlocks rfl hS dX10_odds_20
abbrev cX10_fault : ByteArray := prog_1_method_5_code
def yX10_fault : MethodName := ⟨RX10, "fault", "()I"⟩
theorem t668 : Cond.code yX10_fault cX10_fault 1 (some .int) ∈ GW := gw_mem 782 (by decide +kernel) (by decide +kernel)
theorem dX10_fault_0 : decode cX10_fault 0 = .ok (.aload_n 0, 1) := by decide +kernel
theorem dX10_fault_1 : decode cX10_fault 1 = .ok (.getfield 109, 3) := by decide +kernel
theorem t490 : Cond.fieldLink RX10 109 "LikenessPound" "latestFault" "I" ∈ GW := gw_mem 604 (by decide +kernel) (by decide +kernel)
theorem gf_X10_109 {p : Program} {l : Launch} {e : Env} {R : Room} {s : State} {m : MethodId} {args : Array Value} {below : List Frame} {meth : Method} {c : Code} {H : Heap} {locs : List Loc} {cells slots : Nat} {Q : State → Prop} {cc : ByteArray} {pc : Nat} {ls : Array Slot} {rest : List Value} {D : va_G} {a : Nat} {tys : List (ClassId × FieldType)} {ws : va_W} (hx : p.tables.exec = Jvm.exec) (hb : c.code = cc) (hts : ∀ w ∈ GW, w.before args s = true) (hown : s.vm.findClass RX10 = some m.cls) (hK : va_K D vwCl tys s) (hP : va_P D vwCl ws H) (q0 : Nat) {fs : List Value} (he : ws[q0]? = some (a, .inr (11, fs))) {v : Value} (hv : fs[13]? = some v) (hdg : decode cc pc = .ok (.getfield 109, 3)) (kk : W p l e R s m args below meth c H locs cells slots Q (F0 m (pc + 3) ls (v :: rest))) : W p l e R s m args below meth c H locs cells slots Q (F0 m pc ls (.ref a :: rest)) := va_get (C := RX10) (T := TX10) (N := 17) (ci := 11) hx hb hts inX10 hown hK hP q0 he rfl 13 (by decide) (hts _ t490) (fun _ h => h) hv hdg kk
theorem dX10_fault_4 : decode cX10_fault 4 = .ok (.ireturn, 1) := by decide +kernel
set_option maxHeartbeats 4000000 in
set_option maxRecDepth 100000 in
theorem k_fault (l : Launch) (dC : Nat → ClassId) (dI : Nat → Nat → Nat) (cy : Nat → ClassId) (ad : Nat → Nat)  : Met l yX10_fault (wl yX10_fault cX10_fault 1 (some .int)) ({ frames := 0, cells := 0, slots := 0, locals := 0 }) (Pr (dC, dI) vwCl cy [(ad 0, .inr (11, [.ref (ad 1), .ref (ad 4), .ref (ad 5), .ref (ad 10), .ref (ad 23), .ref (ad 24), .ref (ad 25), .ref (ad 27), .ref (ad 28), .ref (ad 29), .ref (ad 30), .ref (ad 31), .ref (ad 54), .int 0, .int (-1), .int 0, .int 0]))] [.ref (ad 0)]) (Ri (fun r => r = 0)) 0 0 (fun _ => False) := by
  refine mr RX10 rfl (by decide +kernel) (Nat.le_of_ble_eq_true rfl) ?_
  intro p e s m below meth c hx hb hr hlocks av9 hav hts hown hml hK hP hS Q9 hQ9 ls hl
  have hl : lv_has ls 1 [(0, .ref (ad 0))] := hl
  refine lv_aload_n hx hb dX10_fault_0 rfl (lv_at hl 0 rfl) ?_
  refine gf_X10_109 hx hb hts hown hK hP 0 rfl rfl dX10_fault_1 ?_
  rw [hQ9]
  exact rr_i hx hb hr hlocks rfl hS dX10_fault_4
abbrev cX10_helping : ByteArray := prog_1_method_25_code
def yX10_helping : MethodName := ⟨RX10, "helping", "()I"⟩
theorem t898 : Cond.code yX10_helping cX10_helping 1 (some .int) ∈ GW := gw_mem 1012 (by decide +kernel) (by decide +kernel)
theorem dX10_helping_0 : decode cX10_helping 0 = .ok (.aload_n 0, 1) := by decide +kernel
theorem dX10_helping_1 : decode cX10_helping 1 = .ok (.getfield 83, 3) := by decide +kernel
theorem t491 : Cond.fieldLink RX10 83 "LikenessPound" "latestHelp" "I" ∈ GW := gw_mem 605 (by decide +kernel) (by decide +kernel)
theorem gf_X10_83 {p : Program} {l : Launch} {e : Env} {R : Room} {s : State} {m : MethodId} {args : Array Value} {below : List Frame} {meth : Method} {c : Code} {H : Heap} {locs : List Loc} {cells slots : Nat} {Q : State → Prop} {cc : ByteArray} {pc : Nat} {ls : Array Slot} {rest : List Value} {D : va_G} {a : Nat} {tys : List (ClassId × FieldType)} {ws : va_W} (hx : p.tables.exec = Jvm.exec) (hb : c.code = cc) (hts : ∀ w ∈ GW, w.before args s = true) (hown : s.vm.findClass RX10 = some m.cls) (hK : va_K D vwCl tys s) (hP : va_P D vwCl ws H) (q0 : Nat) {fs : List Value} (he : ws[q0]? = some (a, .inr (11, fs))) {v : Value} (hv : fs[14]? = some v) (hdg : decode cc pc = .ok (.getfield 83, 3)) (kk : W p l e R s m args below meth c H locs cells slots Q (F0 m (pc + 3) ls (v :: rest))) : W p l e R s m args below meth c H locs cells slots Q (F0 m pc ls (.ref a :: rest)) := va_get (C := RX10) (T := TX10) (N := 17) (ci := 11) hx hb hts inX10 hown hK hP q0 he rfl 14 (by decide) (hts _ t491) (fun _ h => h) hv hdg kk
theorem dX10_helping_4 : decode cX10_helping 4 = .ok (.ireturn, 1) := by decide +kernel
set_option maxHeartbeats 4000000 in
set_option maxRecDepth 100000 in
theorem k_helping (l : Launch) (dC : Nat → ClassId) (dI : Nat → Nat → Nat) (cy : Nat → ClassId) (ad : Nat → Nat)  : Met l yX10_helping (wl yX10_helping cX10_helping 1 (some .int)) ({ frames := 0, cells := 0, slots := 0, locals := 0 }) (Pr (dC, dI) vwCl cy [(ad 0, .inr (11, [.ref (ad 1), .ref (ad 4), .ref (ad 5), .ref (ad 10), .ref (ad 23), .ref (ad 24), .ref (ad 25), .ref (ad 27), .ref (ad 28), .ref (ad 29), .ref (ad 30), .ref (ad 31), .ref (ad 54), .int 0, .int (-1), .int 0, .int 0]))] [.ref (ad 0)]) (Ri (fun r => r = (-1))) 0 0 (fun _ => False) := by
  refine mr RX10 rfl (by decide +kernel) (Nat.le_of_ble_eq_true rfl) ?_
  intro p e s m below meth c hx hb hr hlocks av9 hav hts hown hml hK hP hS Q9 hQ9 ls hl
  have hl : lv_has ls 1 [(0, .ref (ad 0))] := hl
  refine lv_aload_n hx hb dX10_helping_0 rfl (lv_at hl 0 rfl) ?_
  refine gf_X10_83 hx hb hts hown hK hP 0 rfl rfl dX10_helping_1 ?_
  rw [hQ9]
  exact rr_i hx hb hr hlocks rfl hS dX10_helping_4
abbrev cX10_mayBe : ByteArray := prog_1_method_27_code
def yX10_mayBe : MethodName := ⟨RX10, "mayBe", "(I)I"⟩
theorem t947 : Cond.code yX10_mayBe cX10_mayBe 2 (some .int) ∈ GW := gw_mem 1061 (by decide +kernel) (by decide +kernel)
theorem dX10_mayBe_0 : decode cX10_mayBe 0 = .ok (.iload_n 1, 1) := by decide +kernel
theorem dX10_mayBe_1 : decode cX10_mayBe 1 = .ok (.ifCond .lt 20, 3) := by decide +kernel
theorem dX10_mayBe_21 : decode cX10_mayBe 21 = .ok (.iconst (-1), 1) := by decide +kernel
theorem dX10_mayBe_22 : decode cX10_mayBe 22 = .ok (.ireturn, 1) := by decide +kernel
theorem dX10_mayBe_4 : decode cX10_mayBe 4 = .ok (.iload_n 1, 1) := by decide +kernel
theorem dX10_mayBe_5 : decode cX10_mayBe 5 = .ok (.aload_n 0, 1) := by decide +kernel
theorem dX10_mayBe_6 : decode cX10_mayBe 6 = .ok (.getfield 298, 3) := by decide +kernel
theorem t492 : Cond.fieldLink RX10 298 "LikenessPound" "mayDeeds" "I" ∈ GW := gw_mem 606 (by decide +kernel) (by decide +kernel)
theorem gf_X10_298 {p : Program} {l : Launch} {e : Env} {R : Room} {s : State} {m : MethodId} {args : Array Value} {below : List Frame} {meth : Method} {c : Code} {H : Heap} {locs : List Loc} {cells slots : Nat} {Q : State → Prop} {cc : ByteArray} {pc : Nat} {ls : Array Slot} {rest : List Value} {D : va_G} {a : Nat} {tys : List (ClassId × FieldType)} {ws : va_W} (hx : p.tables.exec = Jvm.exec) (hb : c.code = cc) (hts : ∀ w ∈ GW, w.before args s = true) (hown : s.vm.findClass RX10 = some m.cls) (hK : va_K D vwCl tys s) (hP : va_P D vwCl ws H) (q0 : Nat) {fs : List Value} (he : ws[q0]? = some (a, .inr (11, fs))) {v : Value} (hv : fs[15]? = some v) (hdg : decode cc pc = .ok (.getfield 298, 3)) (kk : W p l e R s m args below meth c H locs cells slots Q (F0 m (pc + 3) ls (v :: rest))) : W p l e R s m args below meth c H locs cells slots Q (F0 m pc ls (.ref a :: rest)) := va_get (C := RX10) (T := TX10) (N := 17) (ci := 11) hx hb hts inX10 hown hK hP q0 he rfl 15 (by decide) (hts _ t492) (fun _ h => h) hv hdg kk
theorem dX10_mayBe_9 : decode cX10_mayBe 9 = .ok (.if_icmp .ge 12, 3) := by decide +kernel
set_option maxHeartbeats 4000000 in
set_option maxRecDepth 100000 in
theorem k_mayBe (l : Launch) (dC : Nat → ClassId) (dI : Nat → Nat → Nat) (cy : Nat → ClassId) (ad : Nat → Nat) (n0 : Int32)  : Met l yX10_mayBe (wl yX10_mayBe cX10_mayBe 2 (some .int)) ({ frames := 0, cells := 0, slots := 0, locals := 0 }) (Pr (dC, dI) vwCl cy [(ad 0, .inr (11, [.ref (ad 1), .ref (ad 4), .ref (ad 5), .ref (ad 10), .ref (ad 23), .ref (ad 24), .ref (ad 25), .ref (ad 27), .ref (ad 28), .ref (ad 29), .ref (ad 30), .ref (ad 31), .ref (ad 54), .int 0, .int (-1), .int 0, .int 0]))] [.ref (ad 0), .int n0]) (Ri (fun r => r = (-1))) 0 0 (fun _ => False) := by
  refine mr RX10 rfl (by decide +kernel) (Nat.le_of_ble_eq_true rfl) ?_
  intro p e s m below meth c hx hb hr hlocks av9 hav hts hown hml hK hP hS Q9 hQ9 ls hl
  have hl : lv_has ls 2 [(0, .ref (ad 0)), (1, .int n0)] := hl
  refine lv_iload_n hx hb dX10_mayBe_0 rfl (lv_at hl 1 rfl) ?_
  refine lv_if_lt (tgt := 21) hx hb dX10_mayBe_1 (by decide) (fun c_1 => ?_) (fun c_1 => ?_)
  · skip
    refine lv_iconst (v := (-1)) hx hb dX10_mayBe_21 (by decide) ?_
    rw [hQ9]
    exact rr_i hx hb hr hlocks rfl hS dX10_mayBe_22
  · skip
    refine lv_iload_n hx hb dX10_mayBe_4 rfl (lv_at hl 1 rfl) ?_
    refine lv_aload_n hx hb dX10_mayBe_5 rfl (lv_at hl 0 rfl) ?_
    refine gf_X10_298 hx hb hts hown hK hP 0 rfl rfl dX10_mayBe_6 ?_
    refine lv_icmp_ge (tgt := 21) hx hb dX10_mayBe_9 (by decide) (fun _ => ?_) (fun c9 => absurd (Int32.not_lt.mp c_1) c9)
    refine lv_iconst (v := (-1)) hx hb dX10_mayBe_21 (by decide) ?_
    rw [hQ9]
    exact rr_i hx hb hr hlocks rfl hS dX10_mayBe_22
abbrev cX10_careerOf : ByteArray := prog_1_method_29_code
def yX10_careerOf : MethodName := ⟨RX10, "careerOf", "(I)I"⟩
theorem t960 : Cond.code yX10_careerOf cX10_careerOf 2 (some .int) ∈ GW := gw_mem 1074 (by decide +kernel) (by decide +kernel)
theorem dX10_careerOf_0 : decode cX10_careerOf 0 = .ok (.iload_n 1, 1) := by decide +kernel
theorem dX10_careerOf_1 : decode cX10_careerOf 1 = .ok (.ifCond .lt 20, 3) := by decide +kernel
theorem dX10_careerOf_21 : decode cX10_careerOf 21 = .ok (.iconst (-1), 1) := by decide +kernel
theorem dX10_careerOf_22 : decode cX10_careerOf 22 = .ok (.ireturn, 1) := by decide +kernel
theorem dX10_careerOf_4 : decode cX10_careerOf 4 = .ok (.iload_n 1, 1) := by decide +kernel
theorem dX10_careerOf_5 : decode cX10_careerOf 5 = .ok (.aload_n 0, 1) := by decide +kernel
theorem dX10_careerOf_6 : decode cX10_careerOf 6 = .ok (.getfield 318, 3) := by decide +kernel
theorem t493 : Cond.fieldLink RX10 318 "LikenessPound" "careerDeeds" "I" ∈ GW := gw_mem 607 (by decide +kernel) (by decide +kernel)
theorem gf_X10_318 {p : Program} {l : Launch} {e : Env} {R : Room} {s : State} {m : MethodId} {args : Array Value} {below : List Frame} {meth : Method} {c : Code} {H : Heap} {locs : List Loc} {cells slots : Nat} {Q : State → Prop} {cc : ByteArray} {pc : Nat} {ls : Array Slot} {rest : List Value} {D : va_G} {a : Nat} {tys : List (ClassId × FieldType)} {ws : va_W} (hx : p.tables.exec = Jvm.exec) (hb : c.code = cc) (hts : ∀ w ∈ GW, w.before args s = true) (hown : s.vm.findClass RX10 = some m.cls) (hK : va_K D vwCl tys s) (hP : va_P D vwCl ws H) (q0 : Nat) {fs : List Value} (he : ws[q0]? = some (a, .inr (11, fs))) {v : Value} (hv : fs[16]? = some v) (hdg : decode cc pc = .ok (.getfield 318, 3)) (kk : W p l e R s m args below meth c H locs cells slots Q (F0 m (pc + 3) ls (v :: rest))) : W p l e R s m args below meth c H locs cells slots Q (F0 m pc ls (.ref a :: rest)) := va_get (C := RX10) (T := TX10) (N := 17) (ci := 11) hx hb hts inX10 hown hK hP q0 he rfl 16 (by decide) (hts _ t493) (fun _ h => h) hv hdg kk
theorem dX10_careerOf_9 : decode cX10_careerOf 9 = .ok (.if_icmp .ge 12, 3) := by decide +kernel
set_option maxHeartbeats 4000000 in
set_option maxRecDepth 100000 in
theorem k_careerOf (l : Launch) (dC : Nat → ClassId) (dI : Nat → Nat → Nat) (cy : Nat → ClassId) (ad : Nat → Nat) (n0 : Int32)  : Met l yX10_careerOf (wl yX10_careerOf cX10_careerOf 2 (some .int)) ({ frames := 0, cells := 0, slots := 0, locals := 0 }) (Pr (dC, dI) vwCl cy [(ad 0, .inr (11, [.ref (ad 1), .ref (ad 4), .ref (ad 5), .ref (ad 10), .ref (ad 23), .ref (ad 24), .ref (ad 25), .ref (ad 27), .ref (ad 28), .ref (ad 29), .ref (ad 30), .ref (ad 31), .ref (ad 54), .int 0, .int (-1), .int 0, .int 0]))] [.ref (ad 0), .int n0]) (Ri (fun r => r = (-1))) 0 0 (fun _ => False) := by
  refine mr RX10 rfl (by decide +kernel) (Nat.le_of_ble_eq_true rfl) ?_
  intro p e s m below meth c hx hb hr hlocks av9 hav hts hown hml hK hP hS Q9 hQ9 ls hl
  have hl : lv_has ls 2 [(0, .ref (ad 0)), (1, .int n0)] := hl
  refine lv_iload_n hx hb dX10_careerOf_0 rfl (lv_at hl 1 rfl) ?_
  refine lv_if_lt (tgt := 21) hx hb dX10_careerOf_1 (by decide) (fun c_1 => ?_) (fun c_1 => ?_)
  · skip
    refine lv_iconst (v := (-1)) hx hb dX10_careerOf_21 (by decide) ?_
    rw [hQ9]
    exact rr_i hx hb hr hlocks rfl hS dX10_careerOf_22
  · skip
    refine lv_iload_n hx hb dX10_careerOf_4 rfl (lv_at hl 1 rfl) ?_
    refine lv_aload_n hx hb dX10_careerOf_5 rfl (lv_at hl 0 rfl) ?_
    refine gf_X10_318 hx hb hts hown hK hP 0 rfl rfl dX10_careerOf_6 ?_
    refine lv_icmp_ge (tgt := 21) hx hb dX10_careerOf_9 (by decide) (fun _ => ?_) (fun c9 => absurd (Int32.not_lt.mp c_1) c9)
    refine lv_iconst (v := (-1)) hx hb dX10_careerOf_21 (by decide) ?_
    rw [hQ9]
    exact rr_i hx hb hr hlocks rfl hS dX10_careerOf_22
abbrev cX10_heaviest : ByteArray := prog_1_method_31_code
def yX10_heaviest : MethodName := ⟨RX10, "heaviest", "()I"⟩
theorem t972 : Cond.code yX10_heaviest cX10_heaviest 5 (some .int) ∈ GW := gw_mem 1086 (by decide +kernel) (by decide +kernel)
theorem dX10_heaviest_0 : decode cX10_heaviest 0 = .ok (.iconst (-1), 1) := by decide +kernel
theorem dX10_heaviest_1 : decode cX10_heaviest 1 = .ok (.istore_n 1, 1) := by decide +kernel
theorem dX10_heaviest_2 : decode cX10_heaviest 2 = .ok (.iconst (-1), 1) := by decide +kernel
theorem dX10_heaviest_3 : decode cX10_heaviest 3 = .ok (.istore_n 2, 1) := by decide +kernel
theorem dX10_heaviest_4 : decode cX10_heaviest 4 = .ok (.iconst 0, 1) := by decide +kernel
theorem dX10_heaviest_5 : decode cX10_heaviest 5 = .ok (.istore_n 3, 1) := by decide +kernel
theorem dX10_heaviest_6 : decode cX10_heaviest 6 = .ok (.iload_n 3, 1) := by decide +kernel
theorem dX10_heaviest_7 : decode cX10_heaviest 7 = .ok (.aload_n 0, 1) := by decide +kernel
theorem dX10_heaviest_8 : decode cX10_heaviest 8 = .ok (.getfield 76, 3) := by decide +kernel
theorem dX10_heaviest_11 : decode cX10_heaviest 11 = .ok (.getfield 94, 3) := by decide +kernel
theorem dX10_heaviest_14 : decode cX10_heaviest 14 = .ok (.getfield 324, 3) := by decide +kernel
theorem dX10_heaviest_17 : decode cX10_heaviest 17 = .ok (.if_icmp .ge 30, 3) := by decide +kernel
theorem dX10_heaviest_47 : decode cX10_heaviest 47 = .ok (.iload_n 1, 1) := by decide +kernel
theorem dX10_heaviest_48 : decode cX10_heaviest 48 = .ok (.ireturn, 1) := by decide +kernel
set_option maxHeartbeats 4000000 in
set_option maxRecDepth 100000 in
theorem k_heaviest (l : Launch) (dC : Nat → ClassId) (dI : Nat → Nat → Nat) (cy : Nat → ClassId) (ad : Nat → Nat)  : Met l yX10_heaviest (wl yX10_heaviest cX10_heaviest 5 (some .int)) ({ frames := 1, cells := 0, slots := 0, locals := 64 }) (Pr (dC, dI) vwCl cy [(ad 0, .inr (11, [.ref (ad 1), .ref (ad 4), .ref (ad 5), .ref (ad 10), .ref (ad 23), .ref (ad 24), .ref (ad 25), .ref (ad 27), .ref (ad 28), .ref (ad 29), .ref (ad 30), .ref (ad 31), .ref (ad 54), .int 0, .int (-1), .int 0, .int 0])), (ad 31, .inr (10, [.ref (ad 32), .ref (ad 38), .ref (ad 49)])), (ad 32, .inr (2, [.ref (ad 33), .ref (ad 34), .ref (ad 35), .ref (ad 36), .ref (ad 37), .int 0, .int 0, .int 60, .int 10]))] [.ref (ad 0)]) (Ri (fun r => r = (-1))) 0 0 (fun _ => False) := by
  refine mr RX10 rfl (by decide +kernel) (Nat.le_of_ble_eq_true rfl) ?_
  intro p e s m below meth c hx hb hr hlocks av9 hav hts hown hml hK hP hS Q9 hQ9 ls hl
  have hl : lv_has ls 5 [(0, .ref (ad 0))] := hl
  refine lv_iconst (v := (-1)) hx hb dX10_heaviest_0 (by decide) ?_
  refine lv_istore_n (lv' := [(1, .int (-1)), (0, .ref (ad 0))]) hx hb dX10_heaviest_1 rfl hl (by decide) rfl (fun ls hl => ?_)
  refine lv_iconst (v := (-1)) hx hb dX10_heaviest_2 (by decide) ?_
  refine lv_istore_n (lv' := [(2, .int (-1)), (1, .int (-1)), (0, .ref (ad 0))]) hx hb dX10_heaviest_3 rfl hl (by decide) rfl (fun ls hl => ?_)
  refine lv_iconst (v := 0) hx hb dX10_heaviest_4 (by decide) ?_
  refine lv_istore_n (lv' := [(3, .int 0), (2, .int (-1)), (1, .int (-1)), (0, .ref (ad 0))]) hx hb dX10_heaviest_5 rfl hl (by decide) rfl (fun ls hl => ?_)
  refine lv_iload_n hx hb dX10_heaviest_6 rfl (lv_at hl 0 rfl) ?_
  refine lv_aload_n hx hb dX10_heaviest_7 rfl (lv_at hl 3 rfl) ?_
  refine gf_X10_76 hx hb hts hown hK hP 0 rfl rfl dX10_heaviest_8 ?_
  refine gf_X10_94 hx hb hts hown hK hP 1 rfl rfl dX10_heaviest_11 ?_
  refine gf_X10_324 hx hb hts hown hK hP 2 rfl rfl dX10_heaviest_14 ?_
  refine lv_icmp_ge (tgt := 47) hx hb dX10_heaviest_17 (by decide) (fun _ => ?_) (fun c9 => absurd (by decide) c9)
  refine lv_iload_n hx hb dX10_heaviest_47 rfl (lv_at hl 2 rfl) ?_
  rw [hQ9]
  exact rr_i hx hb hr hlocks rfl hS dX10_heaviest_48
def RJ5 : String := "java/lang/AbstractStringBuilder"
abbrev cJ5_length_8abf5 : ByteArray := prog_15_method_6_code
def yJ5_length_8abf5 : MethodName := ⟨RJ5, "length", "()I"⟩
theorem t1102 : Cond.code yJ5_length_8abf5 cJ5_length_8abf5 1 (some .int) ∈ GW := gw_mem 1216 (by decide +kernel) (by decide +kernel)
theorem dJ5_length_8abf5_0 : decode cJ5_length_8abf5 0 = .ok (.aload_n 0, 1) := by decide +kernel
theorem dJ5_length_8abf5_1 : decode cJ5_length_8abf5 1 = .ok (.getfield 79, 3) := by decide +kernel
theorem t350 : Cond.fieldLink RJ5 79 "java/lang/AbstractStringBuilder" "count" "I" ∈ GW := gw_mem 464 (by decide +kernel) (by decide +kernel)
theorem gf_J5_79 {p : Program} {l : Launch} {e : Env} {R : Room} {s : State} {m : MethodId} {args : Array Value} {below : List Frame} {meth : Method} {c : Code} {H : Heap} {locs : List Loc} {cells slots : Nat} {Q : State → Prop} {cc : ByteArray} {pc : Nat} {ls : Array Slot} {rest : List Value} {D : va_G} {a : Nat} {tys : List (ClassId × FieldType)} {ws : va_W} (hx : p.tables.exec = Jvm.exec) (hb : c.code = cc) (hts : ∀ w ∈ GW, w.before args s = true) (hown : s.vm.findClass RJ5 = some m.cls) (hK : va_K D vwCl tys s) (hP : va_P D vwCl ws H) (q0 : Nat) {fs : List Value} (he : ws[q0]? = some (a, .inr (0, fs))) {v : Value} (hv : fs[3]? = some v) (hdg : decode cc pc = .ok (.getfield 79, 3)) (kk : W p l e R s m args below meth c H locs cells slots Q (F0 m (pc + 3) ls (v :: rest))) : W p l e R s m args below meth c H locs cells slots Q (F0 m pc ls (.ref a :: rest)) := va_get (C := RJ4) (T := TJ4) (N := 4) (ci := 0) hx hb hts inJ4 hown hK hP q0 he rfl 3 (by decide) (hts _ t350) (fun _ h => h) hv hdg kk
theorem dJ5_length_8abf5_4 : decode cJ5_length_8abf5 4 = .ok (.ireturn, 1) := by decide +kernel
set_option maxHeartbeats 4000000 in
set_option maxRecDepth 100000 in
theorem k_J5len (l : Launch) (dC : Nat → ClassId) (dI : Nat → Nat → Nat) (cy : Nat → ClassId) (ad : Nat → Nat)  : Met l yJ5_length_8abf5 (wl yJ5_length_8abf5 cJ5_length_8abf5 1 (some .int)) ({ frames := 0, cells := 0, slots := 0, locals := 0 }) (Pr (dC, dI) vwCl cy [(ad 25, .inr (0, [.ref (ad 26), .int 0, .int 0, .int 0]))] [.ref (ad 25)]) (Ri (fun r => r = 0)) 0 0 (fun _ => False) := by
  refine mr RJ5 rfl (by decide +kernel) (Nat.le_of_ble_eq_true rfl) ?_
  intro p e s m below meth c hx hb hr hlocks av9 hav hts hown hml hK hP hS Q9 hQ9 ls hl
  have hl : lv_has ls 1 [(0, .ref (ad 25))] := hl
  refine lv_aload_n hx hb dJ5_length_8abf5_0 rfl (lv_at hl 0 rfl) ?_
  refine gf_J5_79 hx hb hts hown hK hP 0 rfl rfl dJ5_length_8abf5_1 ?_
  rw [hQ9]
  exact rr_i hx hb hr hlocks rfl hS dJ5_length_8abf5_4
abbrev cJ4_length_8abf5 : ByteArray := prog_26_method_93_code
def yJ4_length_8abf5 : MethodName := ⟨RJ4, "length", "()I"⟩
theorem t1099 : Cond.code yJ4_length_8abf5 cJ4_length_8abf5 1 (some .int) ∈ GW := gw_mem 1213 (by decide +kernel) (by decide +kernel)
theorem dJ4_length_8abf5_0 : decode cJ4_length_8abf5 0 = .ok (.aload_n 0, 1) := by decide +kernel
theorem dJ4_length_8abf5_1 : decode cJ4_length_8abf5 1 = .ok (.invokespecial 343, 3) := by decide +kernel
theorem t1100 : Cond.methodLink RJ4 343 yJ5_length_8abf5 ∈ GW := gw_mem 1214 (by decide +kernel) (by decide +kernel)
theorem t13 : Cond.initialized RJ5 ∈ GW := gw_mem 127 (by decide +kernel) (by decide +kernel)
theorem t1101 : Cond.instanceMethod yJ5_length_8abf5 ∈ GW := gw_mem 1215 (by decide +kernel) (by decide +kernel)
theorem t2084 : Cond.sameMethod yJ5_length_8abf5.cls yJ5_length_8abf5.cls yJ5_length_8abf5.name yJ5_length_8abf5.desc ∈ GW := gw_mem 2198 (by decide +kernel) (by decide +kernel)
theorem t359 : Cond.superclass RJ4 RJ5 ∈ GW := gw_mem 473 (by decide +kernel) (by decide +kernel)
theorem cw_J4_343 {R : Room} {s : State} {args : Array Value} {rm : Room} {mc ms : Nat} (hts : ∀ w ∈ GW, w.before args s = true) (hrc : rm.cells = mc) (hrs : rm.slots = ms) (hR : rm.frames + 1 ≤ R.frames ∧ 8 + (1 + 11) + rm.locals ≤ R.locals) : va_CS R s args RJ4 343 yJ5_length_8abf5 cJ5_length_8abf5 1 (some .int) (wl yJ5_length_8abf5 cJ5_length_8abf5 1 (some .int)) rm mc ms 0 := va_cwSU 0 hts (gi_U t1100 t2084 t359 t1101 t13 t1102) rfl hrc hrs (by decide +kernel) hR
theorem dJ4_length_8abf5_4 : decode cJ4_length_8abf5 4 = .ok (.ireturn, 1) := by decide +kernel
set_option maxHeartbeats 4000000 in
set_option maxRecDepth 100000 in
theorem k_J4len (l : Launch) (dC : Nat → ClassId) (dI : Nat → Nat → Nat) (cy : Nat → ClassId) (ad : Nat → Nat)  : Met l yJ4_length_8abf5 (wl yJ4_length_8abf5 cJ4_length_8abf5 1 (some .int)) ({ frames := 1, cells := 0, slots := 0, locals := 64 }) (Pr (dC, dI) vwCl cy [(ad 25, .inr (0, [.ref (ad 26), .int 0, .int 0, .int 0]))] [.ref (ad 25)]) (Ri (fun r => r = 0)) 0 0 (fun _ => False) := by
  refine mr RJ4 rfl (by decide +kernel) (Nat.le_of_ble_eq_true rfl) ?_
  intro p e s m below meth c hx hb hr hlocks av9 hav hts hown hml hK hP hS Q9 hQ9 ls hl
  have hl : lv_has ls 1 [(0, .ref (ad 25))] := hl
  refine lv_aload_n hx hb dJ4_length_8abf5_0 rfl (lv_at hl 0 rfl) ?_
  refine jr_i (rUr (As := []) (rest := []) (ci := 0) ⟨hx, hb, hml, hown, hts⟩ (k_J5len l dC dI cy ad ) (cw_J4_343 hts rfl rfl ⟨Nat.le_of_ble_eq_true rfl, Nat.le_of_ble_eq_true rfl⟩) hP hK [0] rfl rfl rfl rfl hl.1 rfl (Nat.le_of_ble_eq_true rfl) dJ4_length_8abf5_1 ⟨Nat.le_of_ble_eq_true rfl, Nat.le_of_ble_eq_true rfl⟩) hP hS (fun r_1 H locs hp_2 hP hS => ?_)
  refine as_i 0 hp_2 ?_
  rw [hQ9]
  exact rr_i hx hb hr hlocks rfl hS dJ4_length_8abf5_4
abbrev cX10_byteAt : ByteArray := prog_1_method_33_code
def yX10_byteAt : MethodName := ⟨RX10, "byteAt", "(I)I"⟩
theorem t1152 : Cond.code yX10_byteAt cX10_byteAt 2 (some .int) ∈ GW := gw_mem 1266 (by decide +kernel) (by decide +kernel)
theorem dX10_byteAt_0 : decode cX10_byteAt 0 = .ok (.iload_n 1, 1) := by decide +kernel
theorem dX10_byteAt_1 : decode cX10_byteAt 1 = .ok (.ifCond .lt 25, 3) := by decide +kernel
theorem dX10_byteAt_26 : decode cX10_byteAt 26 = .ok (.iconst (-1), 1) := by decide +kernel
theorem dX10_byteAt_27 : decode cX10_byteAt 27 = .ok (.ireturn, 1) := by decide +kernel
theorem dX10_byteAt_4 : decode cX10_byteAt 4 = .ok (.iload_n 1, 1) := by decide +kernel
theorem dX10_byteAt_5 : decode cX10_byteAt 5 = .ok (.aload_n 0, 1) := by decide +kernel
theorem dX10_byteAt_6 : decode cX10_byteAt 6 = .ok (.getfield 54, 3) := by decide +kernel
theorem t483 : Cond.fieldLink RX10 54 "LikenessPound" "captionText" "Ljava/lang/StringBuilder;" ∈ GW := gw_mem 597 (by decide +kernel) (by decide +kernel)
theorem gf_X10_54 {p : Program} {l : Launch} {e : Env} {R : Room} {s : State} {m : MethodId} {args : Array Value} {below : List Frame} {meth : Method} {c : Code} {H : Heap} {locs : List Loc} {cells slots : Nat} {Q : State → Prop} {cc : ByteArray} {pc : Nat} {ls : Array Slot} {rest : List Value} {D : va_G} {a : Nat} {tys : List (ClassId × FieldType)} {ws : va_W} (hx : p.tables.exec = Jvm.exec) (hb : c.code = cc) (hts : ∀ w ∈ GW, w.before args s = true) (hown : s.vm.findClass RX10 = some m.cls) (hK : va_K D vwCl tys s) (hP : va_P D vwCl ws H) (q0 : Nat) {fs : List Value} (he : ws[q0]? = some (a, .inr (11, fs))) {v : Value} (hv : fs[6]? = some v) (hdg : decode cc pc = .ok (.getfield 54, 3)) (kk : W p l e R s m args below meth c H locs cells slots Q (F0 m (pc + 3) ls (v :: rest))) : W p l e R s m args below meth c H locs cells slots Q (F0 m pc ls (.ref a :: rest)) := va_get (C := RX10) (T := TX10) (N := 17) (ci := 11) hx hb hts inX10 hown hK hP q0 he rfl 6 (by decide) (hts _ t483) (fun _ h => h) hv hdg kk
theorem dX10_byteAt_9 : decode cX10_byteAt 9 = .ok (.invokevirtual 336, 3) := by decide +kernel
theorem t1096 : Cond.methodLink RX10 336 yJ4_length_8abf5 ∈ GW := gw_mem 1210 (by decide +kernel) (by decide +kernel)
theorem t14 : Cond.initialized RJ4 ∈ GW := gw_mem 128 (by decide +kernel) (by decide +kernel)
theorem t1097 : Cond.instanceMethod yJ4_length_8abf5 ∈ GW := gw_mem 1211 (by decide +kernel) (by decide +kernel)
theorem t1098 : Cond.selects RJ4 yJ4_length_8abf5 yJ4_length_8abf5 ∈ GW := gw_mem 1212 (by decide +kernel) (by decide +kernel)
theorem cw_X10_336 {R : Room} {s : State} {args : Array Value} {rm : Room} {mc ms : Nat} (hts : ∀ w ∈ GW, w.before args s = true) (hrc : rm.cells = mc) (hrs : rm.slots = ms) (hR : rm.frames + 1 ≤ R.frames ∧ 8 + (1 + 11) + rm.locals ≤ R.locals) : CallW R s args RX10 RJ4 336 yJ4_length_8abf5 cJ4_length_8abf5 1 (some .int) (wl yJ4_length_8abf5 cJ4_length_8abf5 1 (some .int)) rm mc ms 0 := cwV 0 hts (gi_V t1096 t1097 t1098 t14 t1099) rfl hrc hrs (by decide +kernel) hR
theorem dX10_byteAt_12 : decode cX10_byteAt 12 = .ok (.if_icmp .ge 14, 3) := by decide +kernel
set_option maxHeartbeats 4000000 in
set_option maxRecDepth 100000 in
theorem k_byteAt (l : Launch) (dC : Nat → ClassId) (dI : Nat → Nat → Nat) (cy : Nat → ClassId) (ad : Nat → Nat) (n0 : Int32)  : Met l yX10_byteAt (wl yX10_byteAt cX10_byteAt 2 (some .int)) ({ frames := 2, cells := 0, slots := 0, locals := 128 }) (Pr (dC, dI) vwCl cy [(ad 0, .inr (11, [.ref (ad 1), .ref (ad 4), .ref (ad 5), .ref (ad 10), .ref (ad 23), .ref (ad 24), .ref (ad 25), .ref (ad 27), .ref (ad 28), .ref (ad 29), .ref (ad 30), .ref (ad 31), .ref (ad 54), .int 0, .int (-1), .int 0, .int 0])), (ad 25, .inr (0, [.ref (ad 26), .int 0, .int 0, .int 0]))] [.ref (ad 0), .int n0]) (Ri (fun r => r = (-1))) 0 0 (fun _ => False) := by
  refine mr RX10 rfl (by decide +kernel) (Nat.le_of_ble_eq_true rfl) ?_
  intro p e s m below meth c hx hb hr hlocks av9 hav hts hown hml hK hP hS Q9 hQ9 ls hl
  have hl : lv_has ls 2 [(0, .ref (ad 0)), (1, .int n0)] := hl
  refine lv_iload_n hx hb dX10_byteAt_0 rfl (lv_at hl 1 rfl) ?_
  refine lv_if_lt (tgt := 26) hx hb dX10_byteAt_1 (by decide) (fun c_1 => ?_) (fun c_1 => ?_)
  · skip
    refine lv_iconst (v := (-1)) hx hb dX10_byteAt_26 (by decide) ?_
    rw [hQ9]
    exact rr_i hx hb hr hlocks rfl hS dX10_byteAt_27
  · skip
    refine lv_iload_n hx hb dX10_byteAt_4 rfl (lv_at hl 1 rfl) ?_
    refine lv_aload_n hx hb dX10_byteAt_5 rfl (lv_at hl 0 rfl) ?_
    refine gf_X10_54 hx hb hts hown hK hP 0 rfl rfl dX10_byteAt_6 ?_
    refine jr_i (rVr (As := []) (rest := [.int n0]) (ci := 0) ⟨hx, hb, hml, hown, hts⟩ (k_J4len l dC dI cy ad ) (cw_X10_336 hts rfl rfl ⟨Nat.le_of_ble_eq_true rfl, Nat.le_of_ble_eq_true rfl⟩) hP hK [1] rfl rfl rfl rfl hl.1 rfl (Nat.le_of_ble_eq_true rfl) dX10_byteAt_9 ⟨Nat.le_of_ble_eq_true rfl, Nat.le_of_ble_eq_true rfl⟩) hP hS (fun r_2 H locs hp_3 hP hS => ?_)
    refine as_i 0 hp_3 ?_
    refine lv_icmp_ge (tgt := 26) hx hb dX10_byteAt_12 (by decide) (fun _ => ?_) (fun c9 => absurd (Int32.not_lt.mp c_1) c9)
    refine lv_iconst (v := (-1)) hx hb dX10_byteAt_26 (by decide) ?_
    rw [hQ9]
    exact rr_i hx hb hr hlocks rfl hS dX10_byteAt_27
abbrev cX10_drawn : ByteArray := prog_1_method_34_code
def yX10_drawn : MethodName := ⟨RX10, "drawn", "(II)I"⟩
theorem t1166 : Cond.code yX10_drawn cX10_drawn 3 (some .int) ∈ GW := gw_mem 1280 (by decide +kernel) (by decide +kernel)
theorem dX10_drawn_0 : decode cX10_drawn 0 = .ok (.iload_n 1, 1) := by decide +kernel
theorem dX10_drawn_1 : decode cX10_drawn 1 = .ok (.iconst 1, 1) := by decide +kernel
theorem dX10_drawn_2 : decode cX10_drawn 2 = .ok (.if_icmp .lt 22, 3) := by decide +kernel
theorem dX10_drawn_24 : decode cX10_drawn 24 = .ok (.iconst (-1), 1) := by decide +kernel
theorem dX10_drawn_25 : decode cX10_drawn 25 = .ok (.ireturn, 1) := by decide +kernel
theorem dX10_drawn_5 : decode cX10_drawn 5 = .ok (.iload_n 1, 1) := by decide +kernel
theorem dX10_drawn_6 : decode cX10_drawn 6 = .ok (.bipush 30, 2) := by decide +kernel
theorem dX10_drawn_8 : decode cX10_drawn 8 = .ok (.if_icmp .gt 16, 3) := by decide +kernel
theorem dX10_drawn_11 : decode cX10_drawn 11 = .ok (.aload_n 0, 1) := by decide +kernel
theorem dX10_drawn_12 : decode cX10_drawn 12 = .ok (.getfield 76, 3) := by decide +kernel
theorem dX10_drawn_15 : decode cX10_drawn 15 = .ok (.getfield 94, 3) := by decide +kernel
theorem dX10_drawn_18 : decode cX10_drawn 18 = .ok (.getfield 324, 3) := by decide +kernel
theorem dX10_drawn_21 : decode cX10_drawn 21 = .ok (.ifCond .ne 5, 3) := by decide +kernel
set_option maxHeartbeats 4000000 in
set_option maxRecDepth 100000 in
theorem k_drawn (l : Launch) (dC : Nat → ClassId) (dI : Nat → Nat → Nat) (cy : Nat → ClassId) (ad : Nat → Nat) (n0 : Int32) (n1 : Int32)  : Met l yX10_drawn (wl yX10_drawn cX10_drawn 3 (some .int)) ({ frames := 1, cells := 0, slots := 0, locals := 64 }) (Pr (dC, dI) vwCl cy [(ad 0, .inr (11, [.ref (ad 1), .ref (ad 4), .ref (ad 5), .ref (ad 10), .ref (ad 23), .ref (ad 24), .ref (ad 25), .ref (ad 27), .ref (ad 28), .ref (ad 29), .ref (ad 30), .ref (ad 31), .ref (ad 54), .int 0, .int (-1), .int 0, .int 0])), (ad 31, .inr (10, [.ref (ad 32), .ref (ad 38), .ref (ad 49)])), (ad 32, .inr (2, [.ref (ad 33), .ref (ad 34), .ref (ad 35), .ref (ad 36), .ref (ad 37), .int 0, .int 0, .int 60, .int 10]))] [.ref (ad 0), .int n0, .int n1]) (Ri (fun r => r = (-1))) 0 0 (fun _ => False) := by
  refine mr RX10 rfl (by decide +kernel) (Nat.le_of_ble_eq_true rfl) ?_
  intro p e s m below meth c hx hb hr hlocks av9 hav hts hown hml hK hP hS Q9 hQ9 ls hl
  have hl : lv_has ls 3 [(0, .ref (ad 0)), (1, .int n0), (2, .int n1)] := hl
  refine lv_iload_n hx hb dX10_drawn_0 rfl (lv_at hl 1 rfl) ?_
  refine lv_iconst (v := 1) hx hb dX10_drawn_1 (by decide) ?_
  refine lv_icmp_lt (tgt := 24) hx hb dX10_drawn_2 (by decide) (fun c_1 => ?_) (fun c_1 => ?_)
  · skip
    refine lv_iconst (v := (-1)) hx hb dX10_drawn_24 (by decide) ?_
    rw [hQ9]
    exact rr_i hx hb hr hlocks rfl hS dX10_drawn_25
  · skip
    refine lv_iload_n hx hb dX10_drawn_5 rfl (lv_at hl 1 rfl) ?_
    refine lv_bipush (v := 30) hx hb dX10_drawn_6 (by decide) ?_
    refine lv_icmp_gt (tgt := 24) hx hb dX10_drawn_8 (by decide) (fun c_2 => ?_) (fun c_2 => ?_)
    · skip
      refine lv_iconst (v := (-1)) hx hb dX10_drawn_24 (by decide) ?_
      rw [hQ9]
      exact rr_i hx hb hr hlocks rfl hS dX10_drawn_25
    · skip
      refine lv_aload_n hx hb dX10_drawn_11 rfl (lv_at hl 0 rfl) ?_
      refine gf_X10_76 hx hb hts hown hK hP 0 rfl rfl dX10_drawn_12 ?_
      refine gf_X10_94 hx hb hts hown hK hP 1 rfl rfl dX10_drawn_15 ?_
      refine gf_X10_324 hx hb hts hown hK hP 2 rfl rfl dX10_drawn_18 ?_
      refine lv_if_ne (tgt := 26) hx hb dX10_drawn_21 (by decide) (fun c9 => absurd c9 (by decide)) (fun _ => ?_)
      refine lv_iconst (v := (-1)) hx hb dX10_drawn_24 (by decide) ?_
      rw [hQ9]
      exact rr_i hx hb hr hlocks rfl hS dX10_drawn_25
abbrev cX10_told : ByteArray := prog_1_method_37_code
def yX10_told : MethodName := ⟨RX10, "told", "(I)I"⟩
theorem t1255 : Cond.code yX10_told cX10_told 2 (some .int) ∈ GW := gw_mem 1369 (by decide +kernel) (by decide +kernel)
theorem dX10_told_0 : decode cX10_told 0 = .ok (.aload_n 0, 1) := by decide +kernel
theorem dX10_told_1 : decode cX10_told 1 = .ok (.getfield 26, 3) := by decide +kernel
theorem t479 : Cond.fieldLink RX10 26 "LikenessPound" "bookText" "LLikenessPound$BookText;" ∈ GW := gw_mem 593 (by decide +kernel) (by decide +kernel)
theorem gf_X10_26 {p : Program} {l : Launch} {e : Env} {R : Room} {s : State} {m : MethodId} {args : Array Value} {below : List Frame} {meth : Method} {c : Code} {H : Heap} {locs : List Loc} {cells slots : Nat} {Q : State → Prop} {cc : ByteArray} {pc : Nat} {ls : Array Slot} {rest : List Value} {D : va_G} {a : Nat} {tys : List (ClassId × FieldType)} {ws : va_W} (hx : p.tables.exec = Jvm.exec) (hb : c.code = cc) (hts : ∀ w ∈ GW, w.before args s = true) (hown : s.vm.findClass RX10 = some m.cls) (hK : va_K D vwCl tys s) (hP : va_P D vwCl ws H) (q0 : Nat) {fs : List Value} (he : ws[q0]? = some (a, .inr (11, fs))) {v : Value} (hv : fs[2]? = some v) (hdg : decode cc pc = .ok (.getfield 26, 3)) (kk : W p l e R s m args below meth c H locs cells slots Q (F0 m (pc + 3) ls (v :: rest))) : W p l e R s m args below meth c H locs cells slots Q (F0 m pc ls (.ref a :: rest)) := va_get (C := RX10) (T := TX10) (N := 17) (ci := 11) hx hb hts inX10 hown hK hP q0 he rfl 2 (by decide) (hts _ t479) (fun _ h => h) hv hdg kk
theorem dX10_told_4 : decode cX10_told 4 = .ok (.getfield 374, 3) := by decide +kernel
theorem t181 : Cond.fieldLink RX10 374 "LikenessPound$BookText" "judged" "Z" ∈ GW := gw_mem 295 (by decide +kernel) (by decide +kernel)
theorem gf_X10_374 {p : Program} {l : Launch} {e : Env} {R : Room} {s : State} {m : MethodId} {args : Array Value} {below : List Frame} {meth : Method} {c : Code} {H : Heap} {locs : List Loc} {cells slots : Nat} {Q : State → Prop} {cc : ByteArray} {pc : Nat} {ls : Array Slot} {rest : List Value} {D : va_G} {a : Nat} {tys : List (ClassId × FieldType)} {ws : va_W} (hx : p.tables.exec = Jvm.exec) (hb : c.code = cc) (hts : ∀ w ∈ GW, w.before args s = true) (hown : s.vm.findClass RX10 = some m.cls) (hK : va_K D vwCl tys s) (hP : va_P D vwCl ws H) (q0 : Nat) {fs : List Value} (he : ws[q0]? = some (a, .inr (1, fs))) {v : Value} (hv : fs[5]? = some v) (hdg : decode cc pc = .ok (.getfield 374, 3)) (kk : W p l e R s m args below meth c H locs cells slots Q (F0 m (pc + 3) ls (v :: rest))) : W p l e R s m args below meth c H locs cells slots Q (F0 m pc ls (.ref a :: rest)) := va_get (C := RX0) (T := TX0) (N := 10) (ci := 1) hx hb hts inX0 hown hK hP q0 he rfl 5 (by decide) (hts _ t181) (fun _ h => h) hv hdg kk
theorem dX10_told_7 : decode cX10_told 7 = .ok (.ifCond .ne 5, 3) := by decide +kernel
theorem dX10_told_10 : decode cX10_told 10 = .ok (.iconst (-1), 1) := by decide +kernel
theorem dX10_told_11 : decode cX10_told 11 = .ok (.ireturn, 1) := by decide +kernel
set_option maxHeartbeats 4000000 in
set_option maxRecDepth 100000 in
theorem k_told (l : Launch) (dC : Nat → ClassId) (dI : Nat → Nat → Nat) (cy : Nat → ClassId) (ad : Nat → Nat) (n0 : Int32)  : Met l yX10_told (wl yX10_told cX10_told 2 (some .int)) ({ frames := 1, cells := 0, slots := 0, locals := 64 }) (Pr (dC, dI) vwCl cy [(ad 0, .inr (11, [.ref (ad 1), .ref (ad 4), .ref (ad 5), .ref (ad 10), .ref (ad 23), .ref (ad 24), .ref (ad 25), .ref (ad 27), .ref (ad 28), .ref (ad 29), .ref (ad 30), .ref (ad 31), .ref (ad 54), .int 0, .int (-1), .int 0, .int 0])), (ad 5, .inr (1, [.ref (ad 6), .ref (ad 7), .ref (ad 8), .ref (ad 9), .int 0, .int 0, .int 0, .int 0, .int 0, .int 0]))] [.ref (ad 0), .int n0]) (Ri (fun r => r = (-1))) 0 0 (fun _ => False) := by
  refine mr RX10 rfl (by decide +kernel) (Nat.le_of_ble_eq_true rfl) ?_
  intro p e s m below meth c hx hb hr hlocks av9 hav hts hown hml hK hP hS Q9 hQ9 ls hl
  have hl : lv_has ls 2 [(0, .ref (ad 0)), (1, .int n0)] := hl
  refine lv_aload_n hx hb dX10_told_0 rfl (lv_at hl 0 rfl) ?_
  refine gf_X10_26 hx hb hts hown hK hP 0 rfl rfl dX10_told_1 ?_
  refine gf_X10_374 hx hb hts hown hK hP 1 rfl rfl dX10_told_4 ?_
  refine lv_if_ne (tgt := 12) hx hb dX10_told_7 (by decide) (fun c9 => absurd c9 (by decide)) (fun _ => ?_)
  refine lv_iconst (v := (-1)) hx hb dX10_told_10 (by decide) ?_
  rw [hQ9]
  exact rr_i hx hb hr hlocks rfl hS dX10_told_11
abbrev cX10_said : ByteArray := prog_1_method_39_code
def yX10_said : MethodName := ⟨RX10, "said", "(I)I"⟩
theorem t1309 : Cond.code yX10_said cX10_said 5 (some .int) ∈ GW := gw_mem 1423 (by decide +kernel) (by decide +kernel)
theorem dX10_said_0 : decode cX10_said 0 = .ok (.aload_n 0, 1) := by decide +kernel
theorem dX10_said_1 : decode cX10_said 1 = .ok (.getfield 76, 3) := by decide +kernel
theorem dX10_said_4 : decode cX10_said 4 = .ok (.getfield 115, 3) := by decide +kernel
theorem t469 : Cond.fieldLink RX10 115 "LikenessPound$World" "sentence" "LLikenessPound$Sentence;" ∈ GW := gw_mem 583 (by decide +kernel) (by decide +kernel)
theorem gf_X10_115 {p : Program} {l : Launch} {e : Env} {R : Room} {s : State} {m : MethodId} {args : Array Value} {below : List Frame} {meth : Method} {c : Code} {H : Heap} {locs : List Loc} {cells slots : Nat} {Q : State → Prop} {cc : ByteArray} {pc : Nat} {ls : Array Slot} {rest : List Value} {D : va_G} {a : Nat} {tys : List (ClassId × FieldType)} {ws : va_W} (hx : p.tables.exec = Jvm.exec) (hb : c.code = cc) (hts : ∀ w ∈ GW, w.before args s = true) (hown : s.vm.findClass RX10 = some m.cls) (hK : va_K D vwCl tys s) (hP : va_P D vwCl ws H) (q0 : Nat) {fs : List Value} (he : ws[q0]? = some (a, .inr (10, fs))) {v : Value} (hv : fs[2]? = some v) (hdg : decode cc pc = .ok (.getfield 115, 3)) (kk : W p l e R s m args below meth c H locs cells slots Q (F0 m (pc + 3) ls (v :: rest))) : W p l e R s m args below meth c H locs cells slots Q (F0 m pc ls (.ref a :: rest)) := va_get (C := RX9) (T := TX9) (N := 3) (ci := 10) hx hb hts inX9 hown hK hP q0 he rfl 2 (by decide) (hts _ t469) (fun _ h => h) hv hdg kk
theorem dX10_said_7 : decode cX10_said 7 = .ok (.getfield 394, 3) := by decide +kernel
theorem t445 : Cond.fieldLink RX10 394 "LikenessPound$Sentence" "ones" "I" ∈ GW := gw_mem 559 (by decide +kernel) (by decide +kernel)
theorem gf_X10_394 {p : Program} {l : Launch} {e : Env} {R : Room} {s : State} {m : MethodId} {args : Array Value} {below : List Frame} {meth : Method} {c : Code} {H : Heap} {locs : List Loc} {cells slots : Nat} {Q : State → Prop} {cc : ByteArray} {pc : Nat} {ls : Array Slot} {rest : List Value} {D : va_G} {a : Nat} {tys : List (ClassId × FieldType)} {ws : va_W} (hx : p.tables.exec = Jvm.exec) (hb : c.code = cc) (hts : ∀ w ∈ GW, w.before args s = true) (hown : s.vm.findClass RX10 = some m.cls) (hK : va_K D vwCl tys s) (hP : va_P D vwCl ws H) (q0 : Nat) {fs : List Value} (he : ws[q0]? = some (a, .inr (7, fs))) {v : Value} (hv : fs[5]? = some v) (hdg : decode cc pc = .ok (.getfield 394, 3)) (kk : W p l e R s m args below meth c H locs cells slots Q (F0 m (pc + 3) ls (v :: rest))) : W p l e R s m args below meth c H locs cells slots Q (F0 m pc ls (.ref a :: rest)) := va_get (C := RX6) (T := TX6) (N := 6) (ci := 7) hx hb hts inX6 hown hK hP q0 he rfl 5 (by decide) (hts _ t445) (fun _ h => h) hv hdg kk
theorem dX10_said_10 : decode cX10_said 10 = .ok (.ifCond .eq 8, 3) := by decide +kernel
theorem dX10_said_18 : decode cX10_said 18 = .ok (.iconst (-1), 1) := by decide +kernel
theorem dX10_said_19 : decode cX10_said 19 = .ok (.ireturn, 1) := by decide +kernel
set_option maxHeartbeats 4000000 in
set_option maxRecDepth 100000 in
theorem k_said (l : Launch) (dC : Nat → ClassId) (dI : Nat → Nat → Nat) (cy : Nat → ClassId) (ad : Nat → Nat) (n0 : Int32)  : Met l yX10_said (wl yX10_said cX10_said 5 (some .int)) ({ frames := 1, cells := 0, slots := 0, locals := 64 }) (Pr (dC, dI) vwCl cy [(ad 0, .inr (11, [.ref (ad 1), .ref (ad 4), .ref (ad 5), .ref (ad 10), .ref (ad 23), .ref (ad 24), .ref (ad 25), .ref (ad 27), .ref (ad 28), .ref (ad 29), .ref (ad 30), .ref (ad 31), .ref (ad 54), .int 0, .int (-1), .int 0, .int 0])), (ad 31, .inr (10, [.ref (ad 32), .ref (ad 38), .ref (ad 49)])), (ad 49, .inr (7, [.ref (ad 50), .ref (ad 51), .ref (ad 52), .ref (ad 53), .int 0, .int 0]))] [.ref (ad 0), .int n0]) (Ri (fun r => r = (-1))) 0 0 (fun _ => False) := by
  refine mr RX10 rfl (by decide +kernel) (Nat.le_of_ble_eq_true rfl) ?_
  intro p e s m below meth c hx hb hr hlocks av9 hav hts hown hml hK hP hS Q9 hQ9 ls hl
  have hl : lv_has ls 5 [(0, .ref (ad 0)), (1, .int n0)] := hl
  refine lv_aload_n hx hb dX10_said_0 rfl (lv_at hl 0 rfl) ?_
  refine gf_X10_76 hx hb hts hown hK hP 0 rfl rfl dX10_said_1 ?_
  refine gf_X10_115 hx hb hts hown hK hP 1 rfl rfl dX10_said_4 ?_
  refine gf_X10_394 hx hb hts hown hK hP 2 rfl rfl dX10_said_7 ?_
  refine lv_if_eq (tgt := 18) hx hb dX10_said_10 (by decide) (fun _ => ?_) (fun c9 => absurd (by decide) c9)
  refine lv_iconst (v := (-1)) hx hb dX10_said_18 (by decide) ?_
  rw [hQ9]
  exact rr_i hx hb hr hlocks rfl hS dX10_said_19
abbrev cX5_takeLatest : ByteArray := prog_7_method_5_code
def yX5_takeLatest : MethodName := ⟨RX5, "takeLatest", "(LLikenessPound$Life;)I"⟩
theorem t849 : Cond.code yX5_takeLatest cX5_takeLatest 2 (some .int) ∈ GW := gw_mem 963 (by decide +kernel) (by decide +kernel)
theorem dX5_takeLatest_0 : decode cX5_takeLatest 0 = .ok (.aload_n 0, 1) := by decide +kernel
theorem dX5_takeLatest_1 : decode cX5_takeLatest 1 = .ok (.getfield 18, 3) := by decide +kernel
theorem t294 : Cond.fieldLink RX5 18 "LikenessPound$Past" "size" "I" ∈ GW := gw_mem 408 (by decide +kernel) (by decide +kernel)
theorem gf_X5_18 {p : Program} {l : Launch} {e : Env} {R : Room} {s : State} {m : MethodId} {args : Array Value} {below : List Frame} {meth : Method} {c : Code} {H : Heap} {locs : List Loc} {cells slots : Nat} {Q : State → Prop} {cc : ByteArray} {pc : Nat} {ls : Array Slot} {rest : List Value} {D : va_G} {a : Nat} {tys : List (ClassId × FieldType)} {ws : va_W} (hx : p.tables.exec = Jvm.exec) (hb : c.code = cc) (hts : ∀ w ∈ GW, w.before args s = true) (hown : s.vm.findClass RX5 = some m.cls) (hK : va_K D vwCl tys s) (hP : va_P D vwCl ws H) (q0 : Nat) {fs : List Value} (he : ws[q0]? = some (a, .inr (6, fs))) {v : Value} (hv : fs[1]? = some v) (hdg : decode cc pc = .ok (.getfield 18, 3)) (kk : W p l e R s m args below meth c H locs cells slots Q (F0 m (pc + 3) ls (v :: rest))) : W p l e R s m args below meth c H locs cells slots Q (F0 m pc ls (.ref a :: rest)) := va_get (C := RX5) (T := TX5) (N := 3) (ci := 6) hx hb hts inX5 hown hK hP q0 he rfl 1 (by decide) (hts _ t294) (fun _ h => h) hv hdg kk
theorem dX5_takeLatest_4 : decode cX5_takeLatest 4 = .ok (.ifCond .ne 5, 3) := by decide +kernel
theorem dX5_takeLatest_7 : decode cX5_takeLatest 7 = .ok (.iconst (-1), 1) := by decide +kernel
theorem dX5_takeLatest_8 : decode cX5_takeLatest 8 = .ok (.ireturn, 1) := by decide +kernel
set_option maxHeartbeats 4000000 in
set_option maxRecDepth 100000 in
theorem k_takeLatest (l : Launch) (dC : Nat → ClassId) (dI : Nat → Nat → Nat) (cy : Nat → ClassId) (ad : Nat → Nat)  : Met l yX5_takeLatest (wl yX5_takeLatest cX5_takeLatest 2 (some .int)) ({ frames := 1, cells := 0, slots := 0, locals := 64 }) (Pr (dC, dI) vwCl cy [(ad 10, .inr (6, [.ref (ad 11), .int 0, .int 0]))] [.ref (ad 10), .ref (ad 38)]) (Ri (fun r => r = (-1))) 0 0 (fun _ => False) := by
  refine mr RX5 rfl (by decide +kernel) (Nat.le_of_ble_eq_true rfl) ?_
  intro p e s m below meth c hx hb hr hlocks av9 hav hts hown hml hK hP hS Q9 hQ9 ls hl
  have hl : lv_has ls 2 [(0, .ref (ad 10)), (1, .ref (ad 38))] := hl
  refine lv_aload_n hx hb dX5_takeLatest_0 rfl (lv_at hl 0 rfl) ?_
  refine gf_X5_18 hx hb hts hown hK hP 0 rfl rfl dX5_takeLatest_1 ?_
  refine lv_if_ne (tgt := 9) hx hb dX5_takeLatest_4 (by decide) (fun c9 => absurd c9 (by decide)) (fun _ => ?_)
  refine lv_iconst (v := (-1)) hx hb dX5_takeLatest_7 (by decide) ?_
  rw [hQ9]
  exact rr_i hx hb hr hlocks rfl hS dX5_takeLatest_8
abbrev cX10_undo : ByteArray := prog_1_method_21_code
def yX10_undo : MethodName := ⟨RX10, "undo", "()I"⟩
theorem t845 : Cond.code yX10_undo cX10_undo 1 (some .int) ∈ GW := gw_mem 959 (by decide +kernel) (by decide +kernel)
theorem dX10_undo_0 : decode cX10_undo 0 = .ok (.aload_n 0, 1) := by decide +kernel
theorem dX10_undo_1 : decode cX10_undo 1 = .ok (.getfield 33, 3) := by decide +kernel
theorem t480 : Cond.fieldLink RX10 33 "LikenessPound" "past" "LLikenessPound$Past;" ∈ GW := gw_mem 594 (by decide +kernel) (by decide +kernel)
theorem gf_X10_33 {p : Program} {l : Launch} {e : Env} {R : Room} {s : State} {m : MethodId} {args : Array Value} {below : List Frame} {meth : Method} {c : Code} {H : Heap} {locs : List Loc} {cells slots : Nat} {Q : State → Prop} {cc : ByteArray} {pc : Nat} {ls : Array Slot} {rest : List Value} {D : va_G} {a : Nat} {tys : List (ClassId × FieldType)} {ws : va_W} (hx : p.tables.exec = Jvm.exec) (hb : c.code = cc) (hts : ∀ w ∈ GW, w.before args s = true) (hown : s.vm.findClass RX10 = some m.cls) (hK : va_K D vwCl tys s) (hP : va_P D vwCl ws H) (q0 : Nat) {fs : List Value} (he : ws[q0]? = some (a, .inr (11, fs))) {v : Value} (hv : fs[3]? = some v) (hdg : decode cc pc = .ok (.getfield 33, 3)) (kk : W p l e R s m args below meth c H locs cells slots Q (F0 m (pc + 3) ls (v :: rest))) : W p l e R s m args below meth c H locs cells slots Q (F0 m pc ls (.ref a :: rest)) := va_get (C := RX10) (T := TX10) (N := 17) (ci := 11) hx hb hts inX10 hown hK hP q0 he rfl 3 (by decide) (hts _ t480) (fun _ h => h) hv hdg kk
theorem dX10_undo_4 : decode cX10_undo 4 = .ok (.aload_n 0, 1) := by decide +kernel
theorem dX10_undo_5 : decode cX10_undo 5 = .ok (.getfield 76, 3) := by decide +kernel
theorem dX10_undo_8 : decode cX10_undo 8 = .ok (.getfield 98, 3) := by decide +kernel
theorem t465 : Cond.fieldLink RX10 98 "LikenessPound$World" "life" "LLikenessPound$Life;" ∈ GW := gw_mem 579 (by decide +kernel) (by decide +kernel)
theorem gf_X10_98 {p : Program} {l : Launch} {e : Env} {R : Room} {s : State} {m : MethodId} {args : Array Value} {below : List Frame} {meth : Method} {c : Code} {H : Heap} {locs : List Loc} {cells slots : Nat} {Q : State → Prop} {cc : ByteArray} {pc : Nat} {ls : Array Slot} {rest : List Value} {D : va_G} {a : Nat} {tys : List (ClassId × FieldType)} {ws : va_W} (hx : p.tables.exec = Jvm.exec) (hb : c.code = cc) (hts : ∀ w ∈ GW, w.before args s = true) (hown : s.vm.findClass RX10 = some m.cls) (hK : va_K D vwCl tys s) (hP : va_P D vwCl ws H) (q0 : Nat) {fs : List Value} (he : ws[q0]? = some (a, .inr (10, fs))) {v : Value} (hv : fs[1]? = some v) (hdg : decode cc pc = .ok (.getfield 98, 3)) (kk : W p l e R s m args below meth c H locs cells slots Q (F0 m (pc + 3) ls (v :: rest))) : W p l e R s m args below meth c H locs cells slots Q (F0 m pc ls (.ref a :: rest)) := va_get (C := RX9) (T := TX9) (N := 3) (ci := 10) hx hb hts inX9 hown hK hP q0 he rfl 1 (by decide) (hts _ t465) (fun _ h => h) hv hdg kk
theorem dX10_undo_11 : decode cX10_undo 11 = .ok (.invokevirtual 256, 3) := by decide +kernel
theorem t846 : Cond.methodLink RX10 256 yX5_takeLatest ∈ GW := gw_mem 960 (by decide +kernel) (by decide +kernel)
theorem t9 : Cond.initialized RX5 ∈ GW := gw_mem 123 (by decide +kernel) (by decide +kernel)
theorem t847 : Cond.instanceMethod yX5_takeLatest ∈ GW := gw_mem 961 (by decide +kernel) (by decide +kernel)
theorem t848 : Cond.selects RX5 yX5_takeLatest yX5_takeLatest ∈ GW := gw_mem 962 (by decide +kernel) (by decide +kernel)
theorem cw_X10_256 {R : Room} {s : State} {args : Array Value} {rm : Room} {mc ms : Nat} (hts : ∀ w ∈ GW, w.before args s = true) (hrc : rm.cells = mc) (hrs : rm.slots = ms) (hR : rm.frames + 1 ≤ R.frames ∧ 8 + (2 + 11) + rm.locals ≤ R.locals) : CallW R s args RX10 RX5 256 yX5_takeLatest cX5_takeLatest 2 (some .int) (wl yX5_takeLatest cX5_takeLatest 2 (some .int)) rm mc ms 1 := cwV 1 hts (gi_V t846 t847 t848 t9 t849) rfl hrc hrs (by decide +kernel) hR
theorem dX10_undo_14 : decode cX10_undo 14 = .ok (.ireturn, 1) := by decide +kernel
set_option maxHeartbeats 4000000 in
set_option maxRecDepth 100000 in
theorem k_undo (l : Launch) (dC : Nat → ClassId) (dI : Nat → Nat → Nat) (cy : Nat → ClassId) (ad : Nat → Nat)  : Met l yX10_undo (wl yX10_undo cX10_undo 1 (some .int)) ({ frames := 2, cells := 0, slots := 0, locals := 128 }) (Pr (dC, dI) vwCl cy [(ad 0, .inr (11, [.ref (ad 1), .ref (ad 4), .ref (ad 5), .ref (ad 10), .ref (ad 23), .ref (ad 24), .ref (ad 25), .ref (ad 27), .ref (ad 28), .ref (ad 29), .ref (ad 30), .ref (ad 31), .ref (ad 54), .int 0, .int (-1), .int 0, .int 0])), (ad 31, .inr (10, [.ref (ad 32), .ref (ad 38), .ref (ad 49)])), (ad 10, .inr (6, [.ref (ad 11), .int 0, .int 0]))] [.ref (ad 0)]) (Ri (fun r => r = (-1))) 0 0 (fun _ => False) := by
  refine mr RX10 rfl (by decide +kernel) (Nat.le_of_ble_eq_true rfl) ?_
  intro p e s m below meth c hx hb hr hlocks av9 hav hts hown hml hK hP hS Q9 hQ9 ls hl
  have hl : lv_has ls 1 [(0, .ref (ad 0))] := hl
  refine lv_aload_n hx hb dX10_undo_0 rfl (lv_at hl 0 rfl) ?_
  refine gf_X10_33 hx hb hts hown hK hP 0 rfl rfl dX10_undo_1 ?_
  refine lv_aload_n hx hb dX10_undo_4 rfl (lv_at hl 0 rfl) ?_
  refine gf_X10_76 hx hb hts hown hK hP 0 rfl rfl dX10_undo_5 ?_
  refine gf_X10_98 hx hb hts hown hK hP 1 rfl rfl dX10_undo_8 ?_
  refine jr_i (rVr (As := [.ref (ad 38)]) (rest := []) (ci := 6) ⟨hx, hb, hml, hown, hts⟩ (k_takeLatest l dC dI cy ad ) (cw_X10_256 hts rfl rfl ⟨Nat.le_of_ble_eq_true rfl, Nat.le_of_ble_eq_true rfl⟩) hP hK [2] rfl rfl rfl rfl hl.1 rfl (Nat.le_of_ble_eq_true rfl) dX10_undo_11 ⟨Nat.le_of_ble_eq_true rfl, Nat.le_of_ble_eq_true rfl⟩) hP hS (fun r_1 H locs hp_2 hP hS => ?_)
  refine as_i (-1) hp_2 ?_
  rw [hQ9]
  exact rr_i hx hb hr hlocks rfl hS dX10_undo_14
def cntF (w : Int32) : Int32 := if w = 0 then 0 else if w = 1 then 0 else if w = 2 then 60 else if w = 3 then 10 else if w = 4 then 0 else -1
theorem cntF_out {w : Int32} (h : w.toInt < 0 ∨ 4 < w.toInt) : cntF w = -1 := by
  have ne : ∀ k : Int32, 0 ≤ k.toInt → k.toInt ≤ 4 → w ≠ k := fun k h1 h2 e => by rw [e] at h; omega
  unfold cntF
  rw [if_neg (ne 0 (by decide) (by decide)), if_neg (ne 1 (by decide) (by decide)), if_neg (ne 2 (by decide) (by decide)), if_neg (ne 3 (by decide) (by decide)), if_neg (ne 4 (by decide) (by decide))]
def nowF (w : Int32) : Int32 := if w.toInt < 0 ∨ 7 < w.toInt then -1 else 0
abbrev cX10_count : ByteArray := prog_1_method_42_code
def yX10_count : MethodName := ⟨RX10, "count", "(I)I"⟩
theorem t1349 : Cond.code yX10_count cX10_count 2 (some .int) ∈ GW := gw_mem 1463 (by decide +kernel) (by decide +kernel)
theorem dX10_count_0 : decode cX10_count 0 = .ok (.iload_n 1, 1) := by decide +kernel
theorem dX10_count_1 : decode cX10_count 1 = .ok (.tableswitch 87 0 4 #[35, 46, 57, 68, 79], 35) := by decide +kernel
theorem dX10_count_88 : decode cX10_count 88 = .ok (.iconst (-1), 1) := by decide +kernel
theorem dX10_count_89 : decode cX10_count 89 = .ok (.ireturn, 1) := by decide +kernel
theorem sw_cases_0_4 (x : Int32) (h : ¬ (x.toInt < 0 ∨ 4 < x.toInt)) : x = 0 ∨ x = 1 ∨ x = 2 ∨ x = 3 ∨ x = 4 := by
  have h1 : ∀ k : Int32, x = k ↔ x.toInt = k.toInt := fun k => ⟨fun e => by rw [e], fun e => Int32.toInt_inj.mp e⟩
  simp only [h1]
  simp only [show (0 : Int32).toInt = 0 from by decide, show (1 : Int32).toInt = 1 from by decide, show (2 : Int32).toInt = 2 from by decide, show (3 : Int32).toInt = 3 from by decide, show (4 : Int32).toInt = 4 from by decide]
  omega
theorem dX10_count_36 : decode cX10_count 36 = .ok (.aload_n 0, 1) := by decide +kernel
theorem dX10_count_37 : decode cX10_count 37 = .ok (.getfield 76, 3) := by decide +kernel
theorem dX10_count_40 : decode cX10_count 40 = .ok (.getfield 94, 3) := by decide +kernel
theorem dX10_count_43 : decode cX10_count 43 = .ok (.getfield 324, 3) := by decide +kernel
theorem dX10_count_46 : decode cX10_count 46 = .ok (.ireturn, 1) := by decide +kernel
theorem dX10_count_47 : decode cX10_count 47 = .ok (.aload_n 0, 1) := by decide +kernel
theorem dX10_count_48 : decode cX10_count 48 = .ok (.getfield 76, 3) := by decide +kernel
theorem dX10_count_51 : decode cX10_count 51 = .ok (.getfield 94, 3) := by decide +kernel
theorem dX10_count_54 : decode cX10_count 54 = .ok (.getfield 295, 3) := by decide +kernel
theorem dX10_count_57 : decode cX10_count 57 = .ok (.ireturn, 1) := by decide +kernel
theorem dX10_count_58 : decode cX10_count 58 = .ok (.aload_n 0, 1) := by decide +kernel
theorem dX10_count_59 : decode cX10_count 59 = .ok (.getfield 76, 3) := by decide +kernel
theorem dX10_count_62 : decode cX10_count 62 = .ok (.getfield 94, 3) := by decide +kernel
theorem dX10_count_65 : decode cX10_count 65 = .ok (.getfield 185, 3) := by decide +kernel
theorem t404 : Cond.fieldLink RX10 185 "LikenessPound$Colony" "room" "I" ∈ GW := gw_mem 518 (by decide +kernel) (by decide +kernel)
theorem gf_X10_185 {p : Program} {l : Launch} {e : Env} {R : Room} {s : State} {m : MethodId} {args : Array Value} {below : List Frame} {meth : Method} {c : Code} {H : Heap} {locs : List Loc} {cells slots : Nat} {Q : State → Prop} {cc : ByteArray} {pc : Nat} {ls : Array Slot} {rest : List Value} {D : va_G} {a : Nat} {tys : List (ClassId × FieldType)} {ws : va_W} (hx : p.tables.exec = Jvm.exec) (hb : c.code = cc) (hts : ∀ w ∈ GW, w.before args s = true) (hown : s.vm.findClass RX10 = some m.cls) (hK : va_K D vwCl tys s) (hP : va_P D vwCl ws H) (q0 : Nat) {fs : List Value} (he : ws[q0]? = some (a, .inr (2, fs))) {v : Value} (hv : fs[7]? = some v) (hdg : decode cc pc = .ok (.getfield 185, 3)) (kk : W p l e R s m args below meth c H locs cells slots Q (F0 m (pc + 3) ls (v :: rest))) : W p l e R s m args below meth c H locs cells slots Q (F0 m pc ls (.ref a :: rest)) := va_get (C := RX1) (T := TX1) (N := 9) (ci := 2) hx hb hts inX1 hown hK hP q0 he rfl 7 (by decide) (hts _ t404) (fun _ h => h) hv hdg kk
theorem dX10_count_68 : decode cX10_count 68 = .ok (.ireturn, 1) := by decide +kernel
theorem dX10_count_69 : decode cX10_count 69 = .ok (.aload_n 0, 1) := by decide +kernel
theorem dX10_count_70 : decode cX10_count 70 = .ok (.getfield 76, 3) := by decide +kernel
theorem dX10_count_73 : decode cX10_count 73 = .ok (.getfield 94, 3) := by decide +kernel
theorem dX10_count_76 : decode cX10_count 76 = .ok (.getfield 403, 3) := by decide +kernel
theorem t410 : Cond.fieldLink RX10 403 "LikenessPound$Colony" "faint" "I" ∈ GW := gw_mem 524 (by decide +kernel) (by decide +kernel)
theorem gf_X10_403 {p : Program} {l : Launch} {e : Env} {R : Room} {s : State} {m : MethodId} {args : Array Value} {below : List Frame} {meth : Method} {c : Code} {H : Heap} {locs : List Loc} {cells slots : Nat} {Q : State → Prop} {cc : ByteArray} {pc : Nat} {ls : Array Slot} {rest : List Value} {D : va_G} {a : Nat} {tys : List (ClassId × FieldType)} {ws : va_W} (hx : p.tables.exec = Jvm.exec) (hb : c.code = cc) (hts : ∀ w ∈ GW, w.before args s = true) (hown : s.vm.findClass RX10 = some m.cls) (hK : va_K D vwCl tys s) (hP : va_P D vwCl ws H) (q0 : Nat) {fs : List Value} (he : ws[q0]? = some (a, .inr (2, fs))) {v : Value} (hv : fs[8]? = some v) (hdg : decode cc pc = .ok (.getfield 403, 3)) (kk : W p l e R s m args below meth c H locs cells slots Q (F0 m (pc + 3) ls (v :: rest))) : W p l e R s m args below meth c H locs cells slots Q (F0 m pc ls (.ref a :: rest)) := va_get (C := RX1) (T := TX1) (N := 9) (ci := 2) hx hb hts inX1 hown hK hP q0 he rfl 8 (by decide) (hts _ t410) (fun _ h => h) hv hdg kk
theorem dX10_count_79 : decode cX10_count 79 = .ok (.ireturn, 1) := by decide +kernel
theorem dX10_count_80 : decode cX10_count 80 = .ok (.aload_n 0, 1) := by decide +kernel
theorem dX10_count_81 : decode cX10_count 81 = .ok (.getfield 10, 3) := by decide +kernel
theorem t477 : Cond.fieldLink RX10 10 "LikenessPound" "tape" "LLikenessPound$Tape;" ∈ GW := gw_mem 591 (by decide +kernel) (by decide +kernel)
theorem gf_X10_10 {p : Program} {l : Launch} {e : Env} {R : Room} {s : State} {m : MethodId} {args : Array Value} {below : List Frame} {meth : Method} {c : Code} {H : Heap} {locs : List Loc} {cells slots : Nat} {Q : State → Prop} {cc : ByteArray} {pc : Nat} {ls : Array Slot} {rest : List Value} {D : va_G} {a : Nat} {tys : List (ClassId × FieldType)} {ws : va_W} (hx : p.tables.exec = Jvm.exec) (hb : c.code = cc) (hts : ∀ w ∈ GW, w.before args s = true) (hown : s.vm.findClass RX10 = some m.cls) (hK : va_K D vwCl tys s) (hP : va_P D vwCl ws H) (q0 : Nat) {fs : List Value} (he : ws[q0]? = some (a, .inr (11, fs))) {v : Value} (hv : fs[0]? = some v) (hdg : decode cc pc = .ok (.getfield 10, 3)) (kk : W p l e R s m args below meth c H locs cells slots Q (F0 m (pc + 3) ls (v :: rest))) : W p l e R s m args below meth c H locs cells slots Q (F0 m pc ls (.ref a :: rest)) := va_get (C := RX10) (T := TX10) (N := 17) (ci := 11) hx hb hts inX10 hown hK hP q0 he rfl 0 (by decide) (hts _ t477) (fun _ h => h) hv hdg kk
theorem dX10_count_84 : decode cX10_count 84 = .ok (.getfield 87, 3) := by decide +kernel
theorem t96 : Cond.fieldLink RX10 87 "LikenessPound$Tape" "length" "I" ∈ GW := gw_mem 210 (by decide +kernel) (by decide +kernel)
theorem gf_X10_87 {p : Program} {l : Launch} {e : Env} {R : Room} {s : State} {m : MethodId} {args : Array Value} {below : List Frame} {meth : Method} {c : Code} {H : Heap} {locs : List Loc} {cells slots : Nat} {Q : State → Prop} {cc : ByteArray} {pc : Nat} {ls : Array Slot} {rest : List Value} {D : va_G} {a : Nat} {tys : List (ClassId × FieldType)} {ws : va_W} (hx : p.tables.exec = Jvm.exec) (hb : c.code = cc) (hts : ∀ w ∈ GW, w.before args s = true) (hown : s.vm.findClass RX10 = some m.cls) (hK : va_K D vwCl tys s) (hP : va_P D vwCl ws H) (q0 : Nat) {fs : List Value} (he : ws[q0]? = some (a, .inr (9, fs))) {v : Value} (hv : fs[2]? = some v) (hdg : decode cc pc = .ok (.getfield 87, 3)) (kk : W p l e R s m args below meth c H locs cells slots Q (F0 m (pc + 3) ls (v :: rest))) : W p l e R s m args below meth c H locs cells slots Q (F0 m pc ls (.ref a :: rest)) := va_get (C := RX8) (T := TX8) (N := 12) (ci := 9) hx hb hts inX8 hown hK hP q0 he rfl 2 (by decide) (hts _ t96) (fun _ h => h) hv hdg kk
theorem dX10_count_87 : decode cX10_count 87 = .ok (.ireturn, 1) := by decide +kernel
set_option maxHeartbeats 4000000 in
set_option maxRecDepth 100000 in
theorem k_count (l : Launch) (dC : Nat → ClassId) (dI : Nat → Nat → Nat) (cy : Nat → ClassId) (ad : Nat → Nat) (n0 : Int32)  : Met l yX10_count (wl yX10_count cX10_count 2 (some .int)) ({ frames := 0, cells := 0, slots := 0, locals := 0 }) (Pr (dC, dI) vwCl cy [(ad 0, .inr (11, [.ref (ad 1), .ref (ad 4), .ref (ad 5), .ref (ad 10), .ref (ad 23), .ref (ad 24), .ref (ad 25), .ref (ad 27), .ref (ad 28), .ref (ad 29), .ref (ad 30), .ref (ad 31), .ref (ad 54), .int 0, .int (-1), .int 0, .int 0])), (ad 1, .inr (9, [.ref (ad 2), .ref (ad 3), .int 0, .int 0, .int 0, .int 0, .int 0, .int 0, .long 0, .int 0, .int 0, .int 0])), (ad 31, .inr (10, [.ref (ad 32), .ref (ad 38), .ref (ad 49)])), (ad 32, .inr (2, [.ref (ad 33), .ref (ad 34), .ref (ad 35), .ref (ad 36), .ref (ad 37), .int 0, .int 0, .int 60, .int 10]))] [.ref (ad 0), .int n0]) (Ri (fun r => r = cntF n0)) 0 0 (fun _ => False) := by
  refine mr RX10 rfl (by decide +kernel) (Nat.le_of_ble_eq_true rfl) ?_
  intro p e s m below meth c hx hb hr hlocks av9 hav hts hown hml hK hP hS Q9 hQ9 ls hl
  have hl : lv_has ls 2 [(0, .ref (ad 0)), (1, .int n0)] := hl
  refine lv_iload_n hx hb dX10_count_0 rfl (lv_at hl 1 rfl) ?_
  by_cases sw_1 : n0.toInt < 0 ∨ 4 < n0.toInt
  · refine lv_tableOut (tgt := 88) hx hb dX10_count_1 sw_1 (by decide) ?_
    refine lv_iconst (v := (-1)) hx hb dX10_count_88 (by decide) ?_
    rw [hQ9]
    exact rr_i hx hb hr hlocks (cntF_out sw_1).symm hS dX10_count_89
  · have sw_1a : n0 = 0 ∨ n0 = 1 ∨ n0 = 2 ∨ n0 = 3 ∨ n0 = 4 := sw_cases_0_4 n0 sw_1
    rcases sw_1a with sw_1b | sw_1b | sw_1b | sw_1b | sw_1b
    · refine as_i 0 sw_1b ?_
      refine lv_tableIn (off := 35) (tgt := 36) hx hb dX10_count_1 (by decide) (by decide) (by decide) (by decide) ?_
      refine lv_aload_n hx hb dX10_count_36 rfl (lv_at hl 0 rfl) ?_
      refine gf_X10_76 hx hb hts hown hK hP 0 rfl rfl dX10_count_37 ?_
      refine gf_X10_94 hx hb hts hown hK hP 2 rfl rfl dX10_count_40 ?_
      refine gf_X10_324 hx hb hts hown hK hP 3 rfl rfl dX10_count_43 ?_
      rw [hQ9]
      exact rr_i hx hb hr hlocks (by rw [sw_1b]; rfl) hS dX10_count_46
    · refine as_i 1 sw_1b ?_
      refine lv_tableIn (off := 46) (tgt := 47) hx hb dX10_count_1 (by decide) (by decide) (by decide) (by decide) ?_
      refine lv_aload_n hx hb dX10_count_47 rfl (lv_at hl 0 rfl) ?_
      refine gf_X10_76 hx hb hts hown hK hP 0 rfl rfl dX10_count_48 ?_
      refine gf_X10_94 hx hb hts hown hK hP 2 rfl rfl dX10_count_51 ?_
      refine gf_X10_295 hx hb hts hown hK hP 3 rfl rfl dX10_count_54 ?_
      rw [hQ9]
      exact rr_i hx hb hr hlocks (by rw [sw_1b]; rfl) hS dX10_count_57
    · refine as_i 2 sw_1b ?_
      refine lv_tableIn (off := 57) (tgt := 58) hx hb dX10_count_1 (by decide) (by decide) (by decide) (by decide) ?_
      refine lv_aload_n hx hb dX10_count_58 rfl (lv_at hl 0 rfl) ?_
      refine gf_X10_76 hx hb hts hown hK hP 0 rfl rfl dX10_count_59 ?_
      refine gf_X10_94 hx hb hts hown hK hP 2 rfl rfl dX10_count_62 ?_
      refine gf_X10_185 hx hb hts hown hK hP 3 rfl rfl dX10_count_65 ?_
      rw [hQ9]
      exact rr_i hx hb hr hlocks (by rw [sw_1b]; rfl) hS dX10_count_68
    · refine as_i 3 sw_1b ?_
      refine lv_tableIn (off := 68) (tgt := 69) hx hb dX10_count_1 (by decide) (by decide) (by decide) (by decide) ?_
      refine lv_aload_n hx hb dX10_count_69 rfl (lv_at hl 0 rfl) ?_
      refine gf_X10_76 hx hb hts hown hK hP 0 rfl rfl dX10_count_70 ?_
      refine gf_X10_94 hx hb hts hown hK hP 2 rfl rfl dX10_count_73 ?_
      refine gf_X10_403 hx hb hts hown hK hP 3 rfl rfl dX10_count_76 ?_
      rw [hQ9]
      exact rr_i hx hb hr hlocks (by rw [sw_1b]; rfl) hS dX10_count_79
    · refine as_i 4 sw_1b ?_
      refine lv_tableIn (off := 79) (tgt := 80) hx hb dX10_count_1 (by decide) (by decide) (by decide) (by decide) ?_
      refine lv_aload_n hx hb dX10_count_80 rfl (lv_at hl 0 rfl) ?_
      refine gf_X10_10 hx hb hts hown hK hP 0 rfl rfl dX10_count_81 ?_
      refine gf_X10_87 hx hb hts hown hK hP 1 rfl rfl dX10_count_84 ?_
      rw [hQ9]
      exact rr_i hx hb hr hlocks (by rw [sw_1b]; rfl) hS dX10_count_87
abbrev cX9_whoIs : ByteArray := prog_11_method_8_code
def yX9_whoIs : MethodName := ⟨RX9, "whoIs", "(I)I"⟩
theorem t728 : Cond.code yX9_whoIs cX9_whoIs 4 (some .int) ∈ GW := gw_mem 842 (by decide +kernel) (by decide +kernel)
theorem dX9_whoIs_0 : decode cX9_whoIs 0 = .ok (.iconst 0, 1) := by decide +kernel
theorem dX9_whoIs_1 : decode cX9_whoIs 1 = .ok (.istore_n 2, 1) := by decide +kernel
theorem dX9_whoIs_2 : decode cX9_whoIs 2 = .ok (.iconst 0, 1) := by decide +kernel
theorem dX9_whoIs_3 : decode cX9_whoIs 3 = .ok (.istore_n 3, 1) := by decide +kernel
theorem dX9_whoIs_4 : decode cX9_whoIs 4 = .ok (.iload_n 3, 1) := by decide +kernel
theorem dX9_whoIs_5 : decode cX9_whoIs 5 = .ok (.aload_n 0, 1) := by decide +kernel
theorem dX9_whoIs_6 : decode cX9_whoIs 6 = .ok (.getfield 12, 3) := by decide +kernel
theorem t459 : Cond.fieldLink RX9 12 "LikenessPound$World" "colony" "LLikenessPound$Colony;" ∈ GW := gw_mem 573 (by decide +kernel) (by decide +kernel)
theorem gf_X9_12 {p : Program} {l : Launch} {e : Env} {R : Room} {s : State} {m : MethodId} {args : Array Value} {below : List Frame} {meth : Method} {c : Code} {H : Heap} {locs : List Loc} {cells slots : Nat} {Q : State → Prop} {cc : ByteArray} {pc : Nat} {ls : Array Slot} {rest : List Value} {D : va_G} {a : Nat} {tys : List (ClassId × FieldType)} {ws : va_W} (hx : p.tables.exec = Jvm.exec) (hb : c.code = cc) (hts : ∀ w ∈ GW, w.before args s = true) (hown : s.vm.findClass RX9 = some m.cls) (hK : va_K D vwCl tys s) (hP : va_P D vwCl ws H) (q0 : Nat) {fs : List Value} (he : ws[q0]? = some (a, .inr (10, fs))) {v : Value} (hv : fs[0]? = some v) (hdg : decode cc pc = .ok (.getfield 12, 3)) (kk : W p l e R s m args below meth c H locs cells slots Q (F0 m (pc + 3) ls (v :: rest))) : W p l e R s m args below meth c H locs cells slots Q (F0 m pc ls (.ref a :: rest)) := va_get (C := RX9) (T := TX9) (N := 3) (ci := 10) hx hb hts inX9 hown hK hP q0 he rfl 0 (by decide) (hts _ t459) (fun _ h => h) hv hdg kk
theorem dX9_whoIs_9 : decode cX9_whoIs 9 = .ok (.getfield 65, 3) := by decide +kernel
theorem t393 : Cond.fieldLink RX9 65 "LikenessPound$Colony" "men" "I" ∈ GW := gw_mem 507 (by decide +kernel) (by decide +kernel)
theorem gf_X9_65 {p : Program} {l : Launch} {e : Env} {R : Room} {s : State} {m : MethodId} {args : Array Value} {below : List Frame} {meth : Method} {c : Code} {H : Heap} {locs : List Loc} {cells slots : Nat} {Q : State → Prop} {cc : ByteArray} {pc : Nat} {ls : Array Slot} {rest : List Value} {D : va_G} {a : Nat} {tys : List (ClassId × FieldType)} {ws : va_W} (hx : p.tables.exec = Jvm.exec) (hb : c.code = cc) (hts : ∀ w ∈ GW, w.before args s = true) (hown : s.vm.findClass RX9 = some m.cls) (hK : va_K D vwCl tys s) (hP : va_P D vwCl ws H) (q0 : Nat) {fs : List Value} (he : ws[q0]? = some (a, .inr (2, fs))) {v : Value} (hv : fs[5]? = some v) (hdg : decode cc pc = .ok (.getfield 65, 3)) (kk : W p l e R s m args below meth c H locs cells slots Q (F0 m (pc + 3) ls (v :: rest))) : W p l e R s m args below meth c H locs cells slots Q (F0 m pc ls (.ref a :: rest)) := va_get (C := RX1) (T := TX1) (N := 9) (ci := 2) hx hb hts inX1 hown hK hP q0 he rfl 5 (by decide) (hts _ t393) (fun _ h => h) hv hdg kk
theorem dX9_whoIs_12 : decode cX9_whoIs 12 = .ok (.if_icmp .ge 24, 3) := by decide +kernel
theorem dX9_whoIs_36 : decode cX9_whoIs 36 = .ok (.iload_n 2, 1) := by decide +kernel
theorem dX9_whoIs_37 : decode cX9_whoIs 37 = .ok (.ireturn, 1) := by decide +kernel
set_option maxHeartbeats 4000000 in
set_option maxRecDepth 100000 in
theorem k_whoIs (l : Launch) (dC : Nat → ClassId) (dI : Nat → Nat → Nat) (cy : Nat → ClassId) (ad : Nat → Nat) (n0 : Int32)  : Met l yX9_whoIs (wl yX9_whoIs cX9_whoIs 4 (some .int)) ({ frames := 1, cells := 0, slots := 0, locals := 64 }) (Pr (dC, dI) vwCl cy [(ad 31, .inr (10, [.ref (ad 32), .ref (ad 38), .ref (ad 49)])), (ad 32, .inr (2, [.ref (ad 33), .ref (ad 34), .ref (ad 35), .ref (ad 36), .ref (ad 37), .int 0, .int 0, .int 60, .int 10]))] [.ref (ad 31), .int n0]) (Ri (fun r => r = 0)) 0 0 (fun _ => False) := by
  refine mr RX9 rfl (by decide +kernel) (Nat.le_of_ble_eq_true rfl) ?_
  intro p e s m below meth c hx hb hr hlocks av9 hav hts hown hml hK hP hS Q9 hQ9 ls hl
  have hl : lv_has ls 4 [(0, .ref (ad 31)), (1, .int n0)] := hl
  refine lv_iconst (v := 0) hx hb dX9_whoIs_0 (by decide) ?_
  refine lv_istore_n (lv' := [(2, .int 0), (0, .ref (ad 31)), (1, .int n0)]) hx hb dX9_whoIs_1 rfl hl (by decide) rfl (fun ls hl => ?_)
  refine lv_iconst (v := 0) hx hb dX9_whoIs_2 (by decide) ?_
  refine lv_istore_n (lv' := [(3, .int 0), (2, .int 0), (0, .ref (ad 31)), (1, .int n0)]) hx hb dX9_whoIs_3 rfl hl (by decide) rfl (fun ls hl => ?_)
  refine lv_iload_n hx hb dX9_whoIs_4 rfl (lv_at hl 0 rfl) ?_
  refine lv_aload_n hx hb dX9_whoIs_5 rfl (lv_at hl 2 rfl) ?_
  refine gf_X9_12 hx hb hts hown hK hP 0 rfl rfl dX9_whoIs_6 ?_
  refine gf_X9_65 hx hb hts hown hK hP 1 rfl rfl dX9_whoIs_9 ?_
  refine lv_icmp_ge (tgt := 36) hx hb dX9_whoIs_12 (by decide) (fun _ => ?_) (fun c9 => absurd (by decide) c9)
  refine lv_iload_n hx hb dX9_whoIs_36 rfl (lv_at hl 1 rfl) ?_
  rw [hQ9]
  exact rr_i hx hb hr hlocks rfl hS dX9_whoIs_37
abbrev cX9_whoLends : ByteArray := prog_11_method_9_code
def yX9_whoLends : MethodName := ⟨RX9, "whoLends", "()I"⟩
theorem t740 : Cond.code yX9_whoLends cX9_whoLends 3 (some .int) ∈ GW := gw_mem 854 (by decide +kernel) (by decide +kernel)
theorem dX9_whoLends_0 : decode cX9_whoLends 0 = .ok (.iconst 0, 1) := by decide +kernel
theorem dX9_whoLends_1 : decode cX9_whoLends 1 = .ok (.istore_n 1, 1) := by decide +kernel
theorem dX9_whoLends_2 : decode cX9_whoLends 2 = .ok (.iconst 0, 1) := by decide +kernel
theorem dX9_whoLends_3 : decode cX9_whoLends 3 = .ok (.istore_n 2, 1) := by decide +kernel
theorem dX9_whoLends_4 : decode cX9_whoLends 4 = .ok (.iload_n 2, 1) := by decide +kernel
theorem dX9_whoLends_5 : decode cX9_whoLends 5 = .ok (.aload_n 0, 1) := by decide +kernel
theorem dX9_whoLends_6 : decode cX9_whoLends 6 = .ok (.getfield 12, 3) := by decide +kernel
theorem dX9_whoLends_9 : decode cX9_whoLends 9 = .ok (.getfield 65, 3) := by decide +kernel
theorem dX9_whoLends_12 : decode cX9_whoLends 12 = .ok (.if_icmp .ge 28, 3) := by decide +kernel
theorem dX9_whoLends_40 : decode cX9_whoLends 40 = .ok (.iload_n 1, 1) := by decide +kernel
theorem dX9_whoLends_41 : decode cX9_whoLends 41 = .ok (.ireturn, 1) := by decide +kernel
set_option maxHeartbeats 4000000 in
set_option maxRecDepth 100000 in
theorem k_whoLends (l : Launch) (dC : Nat → ClassId) (dI : Nat → Nat → Nat) (cy : Nat → ClassId) (ad : Nat → Nat)  : Met l yX9_whoLends (wl yX9_whoLends cX9_whoLends 3 (some .int)) ({ frames := 1, cells := 0, slots := 0, locals := 64 }) (Pr (dC, dI) vwCl cy [(ad 31, .inr (10, [.ref (ad 32), .ref (ad 38), .ref (ad 49)])), (ad 32, .inr (2, [.ref (ad 33), .ref (ad 34), .ref (ad 35), .ref (ad 36), .ref (ad 37), .int 0, .int 0, .int 60, .int 10]))] [.ref (ad 31)]) (Ri (fun r => r = 0)) 0 0 (fun _ => False) := by
  refine mr RX9 rfl (by decide +kernel) (Nat.le_of_ble_eq_true rfl) ?_
  intro p e s m below meth c hx hb hr hlocks av9 hav hts hown hml hK hP hS Q9 hQ9 ls hl
  have hl : lv_has ls 3 [(0, .ref (ad 31))] := hl
  refine lv_iconst (v := 0) hx hb dX9_whoLends_0 (by decide) ?_
  refine lv_istore_n (lv' := [(1, .int 0), (0, .ref (ad 31))]) hx hb dX9_whoLends_1 rfl hl (by decide) rfl (fun ls hl => ?_)
  refine lv_iconst (v := 0) hx hb dX9_whoLends_2 (by decide) ?_
  refine lv_istore_n (lv' := [(2, .int 0), (1, .int 0), (0, .ref (ad 31))]) hx hb dX9_whoLends_3 rfl hl (by decide) rfl (fun ls hl => ?_)
  refine lv_iload_n hx hb dX9_whoLends_4 rfl (lv_at hl 0 rfl) ?_
  refine lv_aload_n hx hb dX9_whoLends_5 rfl (lv_at hl 2 rfl) ?_
  refine gf_X9_12 hx hb hts hown hK hP 0 rfl rfl dX9_whoLends_6 ?_
  refine gf_X9_65 hx hb hts hown hK hP 1 rfl rfl dX9_whoLends_9 ?_
  refine lv_icmp_ge (tgt := 40) hx hb dX9_whoLends_12 (by decide) (fun _ => ?_) (fun c9 => absurd (by decide) c9)
  refine lv_iload_n hx hb dX9_whoLends_40 rfl (lv_at hl 1 rfl) ?_
  rw [hQ9]
  exact rr_i hx hb hr hlocks rfl hS dX9_whoLends_41
abbrev cX9_allWhite : ByteArray := prog_11_method_10_code
def yX9_allWhite : MethodName := ⟨RX9, "allWhite", "()I"⟩
theorem t744 : Cond.code yX9_allWhite cX9_allWhite 3 (some .int) ∈ GW := gw_mem 858 (by decide +kernel) (by decide +kernel)
theorem dX9_allWhite_0 : decode cX9_allWhite 0 = .ok (.iconst 0, 1) := by decide +kernel
theorem dX9_allWhite_1 : decode cX9_allWhite 1 = .ok (.istore_n 1, 1) := by decide +kernel
theorem dX9_allWhite_2 : decode cX9_allWhite 2 = .ok (.iconst 0, 1) := by decide +kernel
theorem dX9_allWhite_3 : decode cX9_allWhite 3 = .ok (.istore_n 2, 1) := by decide +kernel
theorem dX9_allWhite_4 : decode cX9_allWhite 4 = .ok (.iload_n 2, 1) := by decide +kernel
theorem dX9_allWhite_5 : decode cX9_allWhite 5 = .ok (.aload_n 0, 1) := by decide +kernel
theorem dX9_allWhite_6 : decode cX9_allWhite 6 = .ok (.getfield 12, 3) := by decide +kernel
theorem dX9_allWhite_9 : decode cX9_allWhite 9 = .ok (.getfield 65, 3) := by decide +kernel
theorem dX9_allWhite_12 : decode cX9_allWhite 12 = .ok (.if_icmp .ge 17, 3) := by decide +kernel
theorem dX9_allWhite_29 : decode cX9_allWhite 29 = .ok (.iload_n 1, 1) := by decide +kernel
theorem dX9_allWhite_30 : decode cX9_allWhite 30 = .ok (.ireturn, 1) := by decide +kernel
set_option maxHeartbeats 4000000 in
set_option maxRecDepth 100000 in
theorem k_allWhite (l : Launch) (dC : Nat → ClassId) (dI : Nat → Nat → Nat) (cy : Nat → ClassId) (ad : Nat → Nat)  : Met l yX9_allWhite (wl yX9_allWhite cX9_allWhite 3 (some .int)) ({ frames := 1, cells := 0, slots := 0, locals := 64 }) (Pr (dC, dI) vwCl cy [(ad 31, .inr (10, [.ref (ad 32), .ref (ad 38), .ref (ad 49)])), (ad 32, .inr (2, [.ref (ad 33), .ref (ad 34), .ref (ad 35), .ref (ad 36), .ref (ad 37), .int 0, .int 0, .int 60, .int 10]))] [.ref (ad 31)]) (Ri (fun r => r = 0)) 0 0 (fun _ => False) := by
  refine mr RX9 rfl (by decide +kernel) (Nat.le_of_ble_eq_true rfl) ?_
  intro p e s m below meth c hx hb hr hlocks av9 hav hts hown hml hK hP hS Q9 hQ9 ls hl
  have hl : lv_has ls 3 [(0, .ref (ad 31))] := hl
  refine lv_iconst (v := 0) hx hb dX9_allWhite_0 (by decide) ?_
  refine lv_istore_n (lv' := [(1, .int 0), (0, .ref (ad 31))]) hx hb dX9_allWhite_1 rfl hl (by decide) rfl (fun ls hl => ?_)
  refine lv_iconst (v := 0) hx hb dX9_allWhite_2 (by decide) ?_
  refine lv_istore_n (lv' := [(2, .int 0), (1, .int 0), (0, .ref (ad 31))]) hx hb dX9_allWhite_3 rfl hl (by decide) rfl (fun ls hl => ?_)
  refine lv_iload_n hx hb dX9_allWhite_4 rfl (lv_at hl 0 rfl) ?_
  refine lv_aload_n hx hb dX9_allWhite_5 rfl (lv_at hl 2 rfl) ?_
  refine gf_X9_12 hx hb hts hown hK hP 0 rfl rfl dX9_allWhite_6 ?_
  refine gf_X9_65 hx hb hts hown hK hP 1 rfl rfl dX9_allWhite_9 ?_
  refine lv_icmp_ge (tgt := 29) hx hb dX9_allWhite_12 (by decide) (fun _ => ?_) (fun c9 => absurd (by decide) c9)
  refine lv_iload_n hx hb dX9_allWhite_29 rfl (lv_at hl 1 rfl) ?_
  rw [hQ9]
  exact rr_i hx hb hr hlocks rfl hS dX9_allWhite_30
abbrev cX9_allDark : ByteArray := prog_11_method_11_code
def yX9_allDark : MethodName := ⟨RX9, "allDark", "()I"⟩
theorem t749 : Cond.code yX9_allDark cX9_allDark 3 (some .int) ∈ GW := gw_mem 863 (by decide +kernel) (by decide +kernel)
theorem dX9_allDark_0 : decode cX9_allDark 0 = .ok (.iconst 0, 1) := by decide +kernel
theorem dX9_allDark_1 : decode cX9_allDark 1 = .ok (.istore_n 1, 1) := by decide +kernel
theorem dX9_allDark_2 : decode cX9_allDark 2 = .ok (.iconst 0, 1) := by decide +kernel
theorem dX9_allDark_3 : decode cX9_allDark 3 = .ok (.istore_n 2, 1) := by decide +kernel
theorem dX9_allDark_4 : decode cX9_allDark 4 = .ok (.iload_n 2, 1) := by decide +kernel
theorem dX9_allDark_5 : decode cX9_allDark 5 = .ok (.aload_n 0, 1) := by decide +kernel
theorem dX9_allDark_6 : decode cX9_allDark 6 = .ok (.getfield 12, 3) := by decide +kernel
theorem dX9_allDark_9 : decode cX9_allDark 9 = .ok (.getfield 65, 3) := by decide +kernel
theorem dX9_allDark_12 : decode cX9_allDark 12 = .ok (.if_icmp .ge 17, 3) := by decide +kernel
theorem dX9_allDark_29 : decode cX9_allDark 29 = .ok (.iload_n 1, 1) := by decide +kernel
theorem dX9_allDark_30 : decode cX9_allDark 30 = .ok (.ireturn, 1) := by decide +kernel
set_option maxHeartbeats 4000000 in
set_option maxRecDepth 100000 in
theorem k_allDark (l : Launch) (dC : Nat → ClassId) (dI : Nat → Nat → Nat) (cy : Nat → ClassId) (ad : Nat → Nat)  : Met l yX9_allDark (wl yX9_allDark cX9_allDark 3 (some .int)) ({ frames := 1, cells := 0, slots := 0, locals := 64 }) (Pr (dC, dI) vwCl cy [(ad 31, .inr (10, [.ref (ad 32), .ref (ad 38), .ref (ad 49)])), (ad 32, .inr (2, [.ref (ad 33), .ref (ad 34), .ref (ad 35), .ref (ad 36), .ref (ad 37), .int 0, .int 0, .int 60, .int 10]))] [.ref (ad 31)]) (Ri (fun r => r = 0)) 0 0 (fun _ => False) := by
  refine mr RX9 rfl (by decide +kernel) (Nat.le_of_ble_eq_true rfl) ?_
  intro p e s m below meth c hx hb hr hlocks av9 hav hts hown hml hK hP hS Q9 hQ9 ls hl
  have hl : lv_has ls 3 [(0, .ref (ad 31))] := hl
  refine lv_iconst (v := 0) hx hb dX9_allDark_0 (by decide) ?_
  refine lv_istore_n (lv' := [(1, .int 0), (0, .ref (ad 31))]) hx hb dX9_allDark_1 rfl hl (by decide) rfl (fun ls hl => ?_)
  refine lv_iconst (v := 0) hx hb dX9_allDark_2 (by decide) ?_
  refine lv_istore_n (lv' := [(2, .int 0), (1, .int 0), (0, .ref (ad 31))]) hx hb dX9_allDark_3 rfl hl (by decide) rfl (fun ls hl => ?_)
  refine lv_iload_n hx hb dX9_allDark_4 rfl (lv_at hl 0 rfl) ?_
  refine lv_aload_n hx hb dX9_allDark_5 rfl (lv_at hl 2 rfl) ?_
  refine gf_X9_12 hx hb hts hown hK hP 0 rfl rfl dX9_allDark_6 ?_
  refine gf_X9_65 hx hb hts hown hK hP 1 rfl rfl dX9_allDark_9 ?_
  refine lv_icmp_ge (tgt := 29) hx hb dX9_allDark_12 (by decide) (fun _ => ?_) (fun c9 => absurd (by decide) c9)
  refine lv_iload_n hx hb dX9_allDark_29 rfl (lv_at hl 1 rfl) ?_
  rw [hQ9]
  exact rr_i hx hb hr hlocks rfl hS dX9_allDark_30
abbrev cX9_weightOfAll : ByteArray := prog_11_method_12_code
def yX9_weightOfAll : MethodName := ⟨RX9, "weightOfAll", "(I)I"⟩
theorem t869 : Cond.code yX9_weightOfAll cX9_weightOfAll 4 (some .int) ∈ GW := gw_mem 983 (by decide +kernel) (by decide +kernel)
theorem dX9_weightOfAll_0 : decode cX9_weightOfAll 0 = .ok (.iconst 0, 1) := by decide +kernel
theorem dX9_weightOfAll_1 : decode cX9_weightOfAll 1 = .ok (.istore_n 2, 1) := by decide +kernel
theorem dX9_weightOfAll_2 : decode cX9_weightOfAll 2 = .ok (.iconst 0, 1) := by decide +kernel
theorem dX9_weightOfAll_3 : decode cX9_weightOfAll 3 = .ok (.istore_n 3, 1) := by decide +kernel
theorem dX9_weightOfAll_4 : decode cX9_weightOfAll 4 = .ok (.iload_n 3, 1) := by decide +kernel
theorem dX9_weightOfAll_5 : decode cX9_weightOfAll 5 = .ok (.aload_n 0, 1) := by decide +kernel
theorem dX9_weightOfAll_6 : decode cX9_weightOfAll 6 = .ok (.getfield 12, 3) := by decide +kernel
theorem dX9_weightOfAll_9 : decode cX9_weightOfAll 9 = .ok (.getfield 65, 3) := by decide +kernel
theorem dX9_weightOfAll_12 : decode cX9_weightOfAll 12 = .ok (.if_icmp .ge 25, 3) := by decide +kernel
theorem dX9_weightOfAll_37 : decode cX9_weightOfAll 37 = .ok (.iload_n 2, 1) := by decide +kernel
theorem dX9_weightOfAll_38 : decode cX9_weightOfAll 38 = .ok (.ireturn, 1) := by decide +kernel
set_option maxHeartbeats 4000000 in
set_option maxRecDepth 100000 in
theorem k_weightOfAll (l : Launch) (dC : Nat → ClassId) (dI : Nat → Nat → Nat) (cy : Nat → ClassId) (ad : Nat → Nat) (n0 : Int32)  : Met l yX9_weightOfAll (wl yX9_weightOfAll cX9_weightOfAll 4 (some .int)) ({ frames := 1, cells := 0, slots := 0, locals := 64 }) (Pr (dC, dI) vwCl cy [(ad 31, .inr (10, [.ref (ad 32), .ref (ad 38), .ref (ad 49)])), (ad 32, .inr (2, [.ref (ad 33), .ref (ad 34), .ref (ad 35), .ref (ad 36), .ref (ad 37), .int 0, .int 0, .int 60, .int 10]))] [.ref (ad 31), .int n0]) (Ri (fun r => r = 0)) 0 0 (fun _ => False) := by
  refine mr RX9 rfl (by decide +kernel) (Nat.le_of_ble_eq_true rfl) ?_
  intro p e s m below meth c hx hb hr hlocks av9 hav hts hown hml hK hP hS Q9 hQ9 ls hl
  have hl : lv_has ls 4 [(0, .ref (ad 31)), (1, .int n0)] := hl
  refine lv_iconst (v := 0) hx hb dX9_weightOfAll_0 (by decide) ?_
  refine lv_istore_n (lv' := [(2, .int 0), (0, .ref (ad 31)), (1, .int n0)]) hx hb dX9_weightOfAll_1 rfl hl (by decide) rfl (fun ls hl => ?_)
  refine lv_iconst (v := 0) hx hb dX9_weightOfAll_2 (by decide) ?_
  refine lv_istore_n (lv' := [(3, .int 0), (2, .int 0), (0, .ref (ad 31)), (1, .int n0)]) hx hb dX9_weightOfAll_3 rfl hl (by decide) rfl (fun ls hl => ?_)
  refine lv_iload_n hx hb dX9_weightOfAll_4 rfl (lv_at hl 0 rfl) ?_
  refine lv_aload_n hx hb dX9_weightOfAll_5 rfl (lv_at hl 2 rfl) ?_
  refine gf_X9_12 hx hb hts hown hK hP 0 rfl rfl dX9_weightOfAll_6 ?_
  refine gf_X9_65 hx hb hts hown hK hP 1 rfl rfl dX9_weightOfAll_9 ?_
  refine lv_icmp_ge (tgt := 37) hx hb dX9_weightOfAll_12 (by decide) (fun _ => ?_) (fun c9 => absurd (by decide) c9)
  refine lv_iload_n hx hb dX9_weightOfAll_37 rfl (lv_at hl 1 rfl) ?_
  rw [hQ9]
  exact rr_i hx hb hr hlocks rfl hS dX9_weightOfAll_38
abbrev cX4_sittings : ByteArray := prog_6_method_6_code
def yX4_sittings : MethodName := ⟨RX4, "sittings", "()I"⟩
theorem t754 : Cond.code yX4_sittings cX4_sittings 3 (some .int) ∈ GW := gw_mem 868 (by decide +kernel) (by decide +kernel)
theorem dX4_sittings_0 : decode cX4_sittings 0 = .ok (.iconst 0, 1) := by decide +kernel
theorem dX4_sittings_1 : decode cX4_sittings 1 = .ok (.istore_n 1, 1) := by decide +kernel
theorem dX4_sittings_2 : decode cX4_sittings 2 = .ok (.iconst 0, 1) := by decide +kernel
theorem dX4_sittings_3 : decode cX4_sittings 3 = .ok (.istore_n 2, 1) := by decide +kernel
theorem dX4_sittings_4 : decode cX4_sittings 4 = .ok (.iload_n 2, 1) := by decide +kernel
theorem dX4_sittings_5 : decode cX4_sittings 5 = .ok (.bipush 7, 2) := by decide +kernel
theorem dX4_sittings_7 : decode cX4_sittings 7 = .ok (.if_icmp .ge 18, 3) := by decide +kernel
theorem dX4_sittings_10 : decode cX4_sittings 10 = .ok (.iload_n 1, 1) := by decide +kernel
theorem dX4_sittings_11 : decode cX4_sittings 11 = .ok (.aload_n 0, 1) := by decide +kernel
theorem dX4_sittings_12 : decode cX4_sittings 12 = .ok (.getfield 27, 3) := by decide +kernel
theorem t250 : Cond.fieldLink RX4 27 "LikenessPound$Life" "sat" "[I" ∈ GW := gw_mem 364 (by decide +kernel) (by decide +kernel)
theorem gf_X4_27 {p : Program} {l : Launch} {e : Env} {R : Room} {s : State} {m : MethodId} {args : Array Value} {below : List Frame} {meth : Method} {c : Code} {H : Heap} {locs : List Loc} {cells slots : Nat} {Q : State → Prop} {cc : ByteArray} {pc : Nat} {ls : Array Slot} {rest : List Value} {D : va_G} {a : Nat} {tys : List (ClassId × FieldType)} {ws : va_W} (hx : p.tables.exec = Jvm.exec) (hb : c.code = cc) (hts : ∀ w ∈ GW, w.before args s = true) (hown : s.vm.findClass RX4 = some m.cls) (hK : va_K D vwCl tys s) (hP : va_P D vwCl ws H) (q0 : Nat) {fs : List Value} (he : ws[q0]? = some (a, .inr (5, fs))) {v : Value} (hv : fs[5]? = some v) (hdg : decode cc pc = .ok (.getfield 27, 3)) (kk : W p l e R s m args below meth c H locs cells slots Q (F0 m (pc + 3) ls (v :: rest))) : W p l e R s m args below meth c H locs cells slots Q (F0 m pc ls (.ref a :: rest)) := va_get (C := RX4) (T := TX4) (N := 11) (ci := 5) hx hb hts inX4 hown hK hP q0 he rfl 5 (by decide) (hts _ t250) (fun _ h => h) hv hdg kk
theorem dX4_sittings_15 : decode cX4_sittings 15 = .ok (.iload_n 2, 1) := by decide +kernel
theorem dX4_sittings_16 : decode cX4_sittings 16 = .ok (.iaload, 1) := by decide +kernel
theorem dX4_sittings_17 : decode cX4_sittings 17 = .ok (.iadd, 1) := by decide +kernel
theorem dX4_sittings_18 : decode cX4_sittings 18 = .ok (.istore_n 1, 1) := by decide +kernel
theorem dX4_sittings_19 : decode cX4_sittings 19 = .ok (.iinc 2 1, 3) := by decide +kernel
theorem dX4_sittings_22 : decode cX4_sittings 22 = .ok (.goto (-18), 3) := by decide +kernel
theorem dX4_sittings_25 : decode cX4_sittings 25 = .ok (.iload_n 1, 1) := by decide +kernel
theorem dX4_sittings_26 : decode cX4_sittings 26 = .ok (.ireturn, 1) := by decide +kernel
set_option maxHeartbeats 4000000 in
set_option maxRecDepth 100000 in
theorem k_sittings (l : Launch) (dC : Nat → ClassId) (dI : Nat → Nat → Nat) (cy : Nat → ClassId) (ad : Nat → Nat) (ai : Nat → Nat → Int32) (hs : ∀ j : Nat, j < 7 → ai 44 j = 0) : Met l yX4_sittings (wl yX4_sittings cX4_sittings 3 (some .int)) ({ frames := 0, cells := 0, slots := 0, locals := 0 }) (Pr (dC, dI) vwCl cy [(ad 38, .inr (5, [.ref (ad 39), .ref (ad 40), .ref (ad 41), .ref (ad 42), .ref (ad 43), .ref (ad 44), .ref (ad 45), .ref (ad 46), .ref (ad 47), .ref (ad 48), .int 0])), (ad 44, .inl (cy 0, 7, .inl (ai 44)))] [.ref (ad 38)]) (Ri (fun r => r = 0)) 0 0 (fun _ => False) := by
  refine mr RX4 rfl (by decide +kernel) (Nat.le_of_ble_eq_true rfl) ?_
  intro p e s m below meth c hx hb hr hlocks av9 hav hts hown hml hK hP hS Q9 hQ9 ls hl
  have hl : lv_has ls 3 [(0, .ref (ad 38))] := hl
  refine lv_iconst (v := 0) hx hb dX4_sittings_0 (by decide) ?_
  refine lv_istore_n (lv' := [(1, .int 0), (0, .ref (ad 38))]) hx hb dX4_sittings_1 rfl hl (by decide) rfl (fun ls hl => ?_)
  refine lv_iconst (v := 0) hx hb dX4_sittings_2 (by decide) ?_
  refine lv_istore_n (lv' := [(2, .int 0), (1, .int 0), (0, .ref (ad 38))]) hx hb dX4_sittings_3 rfl hl (by decide) rfl (fun ls hl => ?_)
  refine lv_iload_n hx hb dX4_sittings_4 rfl (lv_at hl 0 rfl) ?_
  refine lv_bipush (v := 7) hx hb dX4_sittings_5 (by decide) ?_
  refine lv_icmp_ge (tgt := 25) hx hb dX4_sittings_7 (by decide) (fun c9 => absurd c9 (by decide)) (fun _ => ?_)
  refine lv_iload_n hx hb dX4_sittings_10 rfl (lv_at hl 1 rfl) ?_
  refine lv_aload_n hx hb dX4_sittings_11 rfl (lv_at hl 2 rfl) ?_
  refine gf_X4_27 hx hb hts hown hK hP 0 rfl rfl dX4_sittings_12 ?_
  refine lv_iload_n hx hb dX4_sittings_15 rfl (lv_at hl 0 rfl) ?_
  refine va_iald hx hb hK hP 1 0 rfl rfl (vp_in_nI (n := 0) (N := 7) (by decide) (by decide)) dX4_sittings_16 ?_
  refine as_i 0 ((congrArg (ai 44) (show (0 : Int32).toNatClampNeg = 0 from rfl)).trans (hs 0 (by decide))) ?_
  refine lv_iadd hx hb dX4_sittings_17 ?_
  refine as_i 0 (by decide) ?_
  refine lv_istore_n (lv' := [(1, .int 0), (2, .int 0), (0, .ref (ad 38))]) hx hb dX4_sittings_18 rfl hl (by decide) rfl (fun ls hl => ?_)
  refine lv_iinc (v := 1) (lv' := [(2, .int 1), (1, .int 0), (0, .ref (ad 38))]) hx hb dX4_sittings_19 hl (k := 1) rfl (by decide) (by decide) rfl (fun ls hl => ?_)
  refine lv_goto (tgt := 4) hx hb dX4_sittings_22 (by decide) ?_
  refine lv_iload_n hx hb dX4_sittings_4 rfl (lv_at hl 0 rfl) ?_
  refine lv_bipush (v := 7) hx hb dX4_sittings_5 (by decide) ?_
  refine lv_icmp_ge (tgt := 25) hx hb dX4_sittings_7 (by decide) (fun c9 => absurd c9 (by decide)) (fun _ => ?_)
  refine lv_iload_n hx hb dX4_sittings_10 rfl (lv_at hl 1 rfl) ?_
  refine lv_aload_n hx hb dX4_sittings_11 rfl (lv_at hl 2 rfl) ?_
  refine gf_X4_27 hx hb hts hown hK hP 0 rfl rfl dX4_sittings_12 ?_
  refine lv_iload_n hx hb dX4_sittings_15 rfl (lv_at hl 0 rfl) ?_
  refine va_iald hx hb hK hP 1 0 rfl rfl (vp_in_nI (n := 1) (N := 7) (by decide) (by decide)) dX4_sittings_16 ?_
  refine as_i 0 ((congrArg (ai 44) (show (1 : Int32).toNatClampNeg = 1 from rfl)).trans (hs 1 (by decide))) ?_
  refine lv_iadd hx hb dX4_sittings_17 ?_
  refine as_i 0 (by decide) ?_
  refine lv_istore_n (lv' := [(1, .int 0), (2, .int 1), (0, .ref (ad 38))]) hx hb dX4_sittings_18 rfl hl (by decide) rfl (fun ls hl => ?_)
  refine lv_iinc (v := 2) (lv' := [(2, .int 2), (1, .int 0), (0, .ref (ad 38))]) hx hb dX4_sittings_19 hl (k := 1) rfl (by decide) (by decide) rfl (fun ls hl => ?_)
  refine lv_goto (tgt := 4) hx hb dX4_sittings_22 (by decide) ?_
  refine lv_iload_n hx hb dX4_sittings_4 rfl (lv_at hl 0 rfl) ?_
  refine lv_bipush (v := 7) hx hb dX4_sittings_5 (by decide) ?_
  refine lv_icmp_ge (tgt := 25) hx hb dX4_sittings_7 (by decide) (fun c9 => absurd c9 (by decide)) (fun _ => ?_)
  refine lv_iload_n hx hb dX4_sittings_10 rfl (lv_at hl 1 rfl) ?_
  refine lv_aload_n hx hb dX4_sittings_11 rfl (lv_at hl 2 rfl) ?_
  refine gf_X4_27 hx hb hts hown hK hP 0 rfl rfl dX4_sittings_12 ?_
  refine lv_iload_n hx hb dX4_sittings_15 rfl (lv_at hl 0 rfl) ?_
  refine va_iald hx hb hK hP 1 0 rfl rfl (vp_in_nI (n := 2) (N := 7) (by decide) (by decide)) dX4_sittings_16 ?_
  refine as_i 0 ((congrArg (ai 44) (show (2 : Int32).toNatClampNeg = 2 from rfl)).trans (hs 2 (by decide))) ?_
  refine lv_iadd hx hb dX4_sittings_17 ?_
  refine as_i 0 (by decide) ?_
  refine lv_istore_n (lv' := [(1, .int 0), (2, .int 2), (0, .ref (ad 38))]) hx hb dX4_sittings_18 rfl hl (by decide) rfl (fun ls hl => ?_)
  refine lv_iinc (v := 3) (lv' := [(2, .int 3), (1, .int 0), (0, .ref (ad 38))]) hx hb dX4_sittings_19 hl (k := 1) rfl (by decide) (by decide) rfl (fun ls hl => ?_)
  refine lv_goto (tgt := 4) hx hb dX4_sittings_22 (by decide) ?_
  refine lv_iload_n hx hb dX4_sittings_4 rfl (lv_at hl 0 rfl) ?_
  refine lv_bipush (v := 7) hx hb dX4_sittings_5 (by decide) ?_
  refine lv_icmp_ge (tgt := 25) hx hb dX4_sittings_7 (by decide) (fun c9 => absurd c9 (by decide)) (fun _ => ?_)
  refine lv_iload_n hx hb dX4_sittings_10 rfl (lv_at hl 1 rfl) ?_
  refine lv_aload_n hx hb dX4_sittings_11 rfl (lv_at hl 2 rfl) ?_
  refine gf_X4_27 hx hb hts hown hK hP 0 rfl rfl dX4_sittings_12 ?_
  refine lv_iload_n hx hb dX4_sittings_15 rfl (lv_at hl 0 rfl) ?_
  refine va_iald hx hb hK hP 1 0 rfl rfl (vp_in_nI (n := 3) (N := 7) (by decide) (by decide)) dX4_sittings_16 ?_
  refine as_i 0 ((congrArg (ai 44) (show (3 : Int32).toNatClampNeg = 3 from rfl)).trans (hs 3 (by decide))) ?_
  refine lv_iadd hx hb dX4_sittings_17 ?_
  refine as_i 0 (by decide) ?_
  refine lv_istore_n (lv' := [(1, .int 0), (2, .int 3), (0, .ref (ad 38))]) hx hb dX4_sittings_18 rfl hl (by decide) rfl (fun ls hl => ?_)
  refine lv_iinc (v := 4) (lv' := [(2, .int 4), (1, .int 0), (0, .ref (ad 38))]) hx hb dX4_sittings_19 hl (k := 1) rfl (by decide) (by decide) rfl (fun ls hl => ?_)
  refine lv_goto (tgt := 4) hx hb dX4_sittings_22 (by decide) ?_
  refine lv_iload_n hx hb dX4_sittings_4 rfl (lv_at hl 0 rfl) ?_
  refine lv_bipush (v := 7) hx hb dX4_sittings_5 (by decide) ?_
  refine lv_icmp_ge (tgt := 25) hx hb dX4_sittings_7 (by decide) (fun c9 => absurd c9 (by decide)) (fun _ => ?_)
  refine lv_iload_n hx hb dX4_sittings_10 rfl (lv_at hl 1 rfl) ?_
  refine lv_aload_n hx hb dX4_sittings_11 rfl (lv_at hl 2 rfl) ?_
  refine gf_X4_27 hx hb hts hown hK hP 0 rfl rfl dX4_sittings_12 ?_
  refine lv_iload_n hx hb dX4_sittings_15 rfl (lv_at hl 0 rfl) ?_
  refine va_iald hx hb hK hP 1 0 rfl rfl (vp_in_nI (n := 4) (N := 7) (by decide) (by decide)) dX4_sittings_16 ?_
  refine as_i 0 ((congrArg (ai 44) (show (4 : Int32).toNatClampNeg = 4 from rfl)).trans (hs 4 (by decide))) ?_
  refine lv_iadd hx hb dX4_sittings_17 ?_
  refine as_i 0 (by decide) ?_
  refine lv_istore_n (lv' := [(1, .int 0), (2, .int 4), (0, .ref (ad 38))]) hx hb dX4_sittings_18 rfl hl (by decide) rfl (fun ls hl => ?_)
  refine lv_iinc (v := 5) (lv' := [(2, .int 5), (1, .int 0), (0, .ref (ad 38))]) hx hb dX4_sittings_19 hl (k := 1) rfl (by decide) (by decide) rfl (fun ls hl => ?_)
  refine lv_goto (tgt := 4) hx hb dX4_sittings_22 (by decide) ?_
  refine lv_iload_n hx hb dX4_sittings_4 rfl (lv_at hl 0 rfl) ?_
  refine lv_bipush (v := 7) hx hb dX4_sittings_5 (by decide) ?_
  refine lv_icmp_ge (tgt := 25) hx hb dX4_sittings_7 (by decide) (fun c9 => absurd c9 (by decide)) (fun _ => ?_)
  refine lv_iload_n hx hb dX4_sittings_10 rfl (lv_at hl 1 rfl) ?_
  refine lv_aload_n hx hb dX4_sittings_11 rfl (lv_at hl 2 rfl) ?_
  refine gf_X4_27 hx hb hts hown hK hP 0 rfl rfl dX4_sittings_12 ?_
  refine lv_iload_n hx hb dX4_sittings_15 rfl (lv_at hl 0 rfl) ?_
  refine va_iald hx hb hK hP 1 0 rfl rfl (vp_in_nI (n := 5) (N := 7) (by decide) (by decide)) dX4_sittings_16 ?_
  refine as_i 0 ((congrArg (ai 44) (show (5 : Int32).toNatClampNeg = 5 from rfl)).trans (hs 5 (by decide))) ?_
  refine lv_iadd hx hb dX4_sittings_17 ?_
  refine as_i 0 (by decide) ?_
  refine lv_istore_n (lv' := [(1, .int 0), (2, .int 5), (0, .ref (ad 38))]) hx hb dX4_sittings_18 rfl hl (by decide) rfl (fun ls hl => ?_)
  refine lv_iinc (v := 6) (lv' := [(2, .int 6), (1, .int 0), (0, .ref (ad 38))]) hx hb dX4_sittings_19 hl (k := 1) rfl (by decide) (by decide) rfl (fun ls hl => ?_)
  refine lv_goto (tgt := 4) hx hb dX4_sittings_22 (by decide) ?_
  refine lv_iload_n hx hb dX4_sittings_4 rfl (lv_at hl 0 rfl) ?_
  refine lv_bipush (v := 7) hx hb dX4_sittings_5 (by decide) ?_
  refine lv_icmp_ge (tgt := 25) hx hb dX4_sittings_7 (by decide) (fun c9 => absurd c9 (by decide)) (fun _ => ?_)
  refine lv_iload_n hx hb dX4_sittings_10 rfl (lv_at hl 1 rfl) ?_
  refine lv_aload_n hx hb dX4_sittings_11 rfl (lv_at hl 2 rfl) ?_
  refine gf_X4_27 hx hb hts hown hK hP 0 rfl rfl dX4_sittings_12 ?_
  refine lv_iload_n hx hb dX4_sittings_15 rfl (lv_at hl 0 rfl) ?_
  refine va_iald hx hb hK hP 1 0 rfl rfl (vp_in_nI (n := 6) (N := 7) (by decide) (by decide)) dX4_sittings_16 ?_
  refine as_i 0 ((congrArg (ai 44) (show (6 : Int32).toNatClampNeg = 6 from rfl)).trans (hs 6 (by decide))) ?_
  refine lv_iadd hx hb dX4_sittings_17 ?_
  refine as_i 0 (by decide) ?_
  refine lv_istore_n (lv' := [(1, .int 0), (2, .int 6), (0, .ref (ad 38))]) hx hb dX4_sittings_18 rfl hl (by decide) rfl (fun ls hl => ?_)
  refine lv_iinc (v := 7) (lv' := [(2, .int 7), (1, .int 0), (0, .ref (ad 38))]) hx hb dX4_sittings_19 hl (k := 1) rfl (by decide) (by decide) rfl (fun ls hl => ?_)
  refine lv_goto (tgt := 4) hx hb dX4_sittings_22 (by decide) ?_
  refine lv_iload_n hx hb dX4_sittings_4 rfl (lv_at hl 0 rfl) ?_
  refine lv_bipush (v := 7) hx hb dX4_sittings_5 (by decide) ?_
  refine lv_icmp_ge (tgt := 25) hx hb dX4_sittings_7 (by decide) (fun _ => ?_) (fun c9 => absurd (by decide) c9)
  refine lv_iload_n hx hb dX4_sittings_25 rfl (lv_at hl 1 rfl) ?_
  rw [hQ9]
  exact rr_i hx hb hr hlocks rfl hS dX4_sittings_26
abbrev cX10_now : ByteArray := prog_1_method_13_code
def yX10_now : MethodName := ⟨RX10, "now", "(I)I"⟩
theorem t724 : Cond.code yX10_now cX10_now 2 (some .int) ∈ GW := gw_mem 838 (by decide +kernel) (by decide +kernel)
theorem dX10_now_0 : decode cX10_now 0 = .ok (.iload_n 1, 1) := by decide +kernel
theorem dX10_now_1 : decode cX10_now 1 = .ok (.tableswitch 120 0 7 #[47, 58, 67, 76, 85, 93, 101, 109], 47) := by decide +kernel
theorem dX10_now_121 : decode cX10_now 121 = .ok (.iconst (-1), 1) := by decide +kernel
theorem dX10_now_122 : decode cX10_now 122 = .ok (.ireturn, 1) := by decide +kernel
theorem sw_cases_0_7 (x : Int32) (h : ¬ (x.toInt < 0 ∨ 7 < x.toInt)) : x = 0 ∨ x = 1 ∨ x = 2 ∨ x = 3 ∨ x = 4 ∨ x = 5 ∨ x = 6 ∨ x = 7 := by
  have h1 : ∀ k : Int32, x = k ↔ x.toInt = k.toInt := fun k => ⟨fun e => by rw [e], fun e => Int32.toInt_inj.mp e⟩
  simp only [h1]
  simp only [show (0 : Int32).toInt = 0 from by decide, show (1 : Int32).toInt = 1 from by decide, show (2 : Int32).toInt = 2 from by decide, show (3 : Int32).toInt = 3 from by decide, show (4 : Int32).toInt = 4 from by decide, show (5 : Int32).toInt = 5 from by decide, show (6 : Int32).toInt = 6 from by decide, show (7 : Int32).toInt = 7 from by decide]
  omega
theorem dX10_now_48 : decode cX10_now 48 = .ok (.aload_n 0, 1) := by decide +kernel
theorem dX10_now_49 : decode cX10_now 49 = .ok (.getfield 76, 3) := by decide +kernel
theorem dX10_now_52 : decode cX10_now 52 = .ok (.getfield 98, 3) := by decide +kernel
theorem dX10_now_55 : decode cX10_now 55 = .ok (.getfield 200, 3) := by decide +kernel
theorem t268 : Cond.fieldLink RX10 200 "LikenessPound$Life" "year" "I" ∈ GW := gw_mem 382 (by decide +kernel) (by decide +kernel)
theorem gf_X10_200 {p : Program} {l : Launch} {e : Env} {R : Room} {s : State} {m : MethodId} {args : Array Value} {below : List Frame} {meth : Method} {c : Code} {H : Heap} {locs : List Loc} {cells slots : Nat} {Q : State → Prop} {cc : ByteArray} {pc : Nat} {ls : Array Slot} {rest : List Value} {D : va_G} {a : Nat} {tys : List (ClassId × FieldType)} {ws : va_W} (hx : p.tables.exec = Jvm.exec) (hb : c.code = cc) (hts : ∀ w ∈ GW, w.before args s = true) (hown : s.vm.findClass RX10 = some m.cls) (hK : va_K D vwCl tys s) (hP : va_P D vwCl ws H) (q0 : Nat) {fs : List Value} (he : ws[q0]? = some (a, .inr (5, fs))) {v : Value} (hv : fs[10]? = some v) (hdg : decode cc pc = .ok (.getfield 200, 3)) (kk : W p l e R s m args below meth c H locs cells slots Q (F0 m (pc + 3) ls (v :: rest))) : W p l e R s m args below meth c H locs cells slots Q (F0 m pc ls (.ref a :: rest)) := va_get (C := RX4) (T := TX4) (N := 11) (ci := 5) hx hb hts inX4 hown hK hP q0 he rfl 10 (by decide) (hts _ t268) (fun _ h => h) hv hdg kk
theorem dX10_now_58 : decode cX10_now 58 = .ok (.ireturn, 1) := by decide +kernel
theorem dX10_now_59 : decode cX10_now 59 = .ok (.aload_n 0, 1) := by decide +kernel
theorem dX10_now_60 : decode cX10_now 60 = .ok (.getfield 76, 3) := by decide +kernel
theorem dX10_now_63 : decode cX10_now 63 = .ok (.iconst 0, 1) := by decide +kernel
theorem dX10_now_64 : decode cX10_now 64 = .ok (.invokevirtual 203, 3) := by decide +kernel
theorem t725 : Cond.methodLink RX10 203 yX9_whoIs ∈ GW := gw_mem 839 (by decide +kernel) (by decide +kernel)
theorem t15 : Cond.initialized RX9 ∈ GW := gw_mem 129 (by decide +kernel) (by decide +kernel)
theorem t726 : Cond.instanceMethod yX9_whoIs ∈ GW := gw_mem 840 (by decide +kernel) (by decide +kernel)
theorem t727 : Cond.selects RX9 yX9_whoIs yX9_whoIs ∈ GW := gw_mem 841 (by decide +kernel) (by decide +kernel)
theorem cw_X10_203 {R : Room} {s : State} {args : Array Value} {rm : Room} {mc ms : Nat} (hts : ∀ w ∈ GW, w.before args s = true) (hrc : rm.cells = mc) (hrs : rm.slots = ms) (hR : rm.frames + 1 ≤ R.frames ∧ 8 + (4 + 11) + rm.locals ≤ R.locals) : CallW R s args RX10 RX9 203 yX9_whoIs cX9_whoIs 4 (some .int) (wl yX9_whoIs cX9_whoIs 4 (some .int)) rm mc ms 1 := cwV 1 hts (gi_V t725 t726 t727 t15 t728) rfl hrc hrs (by decide +kernel) hR
theorem dX10_now_67 : decode cX10_now 67 = .ok (.ireturn, 1) := by decide +kernel
theorem dX10_now_68 : decode cX10_now 68 = .ok (.aload_n 0, 1) := by decide +kernel
theorem dX10_now_69 : decode cX10_now 69 = .ok (.getfield 76, 3) := by decide +kernel
theorem dX10_now_72 : decode cX10_now 72 = .ok (.iconst 1, 1) := by decide +kernel
theorem dX10_now_73 : decode cX10_now 73 = .ok (.invokevirtual 203, 3) := by decide +kernel
theorem dX10_now_76 : decode cX10_now 76 = .ok (.ireturn, 1) := by decide +kernel
theorem dX10_now_77 : decode cX10_now 77 = .ok (.aload_n 0, 1) := by decide +kernel
theorem dX10_now_78 : decode cX10_now 78 = .ok (.getfield 76, 3) := by decide +kernel
theorem dX10_now_81 : decode cX10_now 81 = .ok (.iconst 2, 1) := by decide +kernel
theorem dX10_now_82 : decode cX10_now 82 = .ok (.invokevirtual 203, 3) := by decide +kernel
theorem dX10_now_85 : decode cX10_now 85 = .ok (.ireturn, 1) := by decide +kernel
theorem dX10_now_86 : decode cX10_now 86 = .ok (.aload_n 0, 1) := by decide +kernel
theorem dX10_now_87 : decode cX10_now 87 = .ok (.getfield 76, 3) := by decide +kernel
theorem dX10_now_90 : decode cX10_now 90 = .ok (.invokevirtual 206, 3) := by decide +kernel
theorem t737 : Cond.methodLink RX10 206 yX9_whoLends ∈ GW := gw_mem 851 (by decide +kernel) (by decide +kernel)
theorem t738 : Cond.instanceMethod yX9_whoLends ∈ GW := gw_mem 852 (by decide +kernel) (by decide +kernel)
theorem t739 : Cond.selects RX9 yX9_whoLends yX9_whoLends ∈ GW := gw_mem 853 (by decide +kernel) (by decide +kernel)
theorem cw_X10_206 {R : Room} {s : State} {args : Array Value} {rm : Room} {mc ms : Nat} (hts : ∀ w ∈ GW, w.before args s = true) (hrc : rm.cells = mc) (hrs : rm.slots = ms) (hR : rm.frames + 1 ≤ R.frames ∧ 8 + (3 + 11) + rm.locals ≤ R.locals) : CallW R s args RX10 RX9 206 yX9_whoLends cX9_whoLends 3 (some .int) (wl yX9_whoLends cX9_whoLends 3 (some .int)) rm mc ms 0 := cwV 0 hts (gi_V t737 t738 t739 t15 t740) rfl hrc hrs (by decide +kernel) hR
theorem dX10_now_93 : decode cX10_now 93 = .ok (.ireturn, 1) := by decide +kernel
theorem dX10_now_94 : decode cX10_now 94 = .ok (.aload_n 0, 1) := by decide +kernel
theorem dX10_now_95 : decode cX10_now 95 = .ok (.getfield 76, 3) := by decide +kernel
theorem dX10_now_98 : decode cX10_now 98 = .ok (.invokevirtual 210, 3) := by decide +kernel
theorem t741 : Cond.methodLink RX10 210 yX9_allWhite ∈ GW := gw_mem 855 (by decide +kernel) (by decide +kernel)
theorem t742 : Cond.instanceMethod yX9_allWhite ∈ GW := gw_mem 856 (by decide +kernel) (by decide +kernel)
theorem t743 : Cond.selects RX9 yX9_allWhite yX9_allWhite ∈ GW := gw_mem 857 (by decide +kernel) (by decide +kernel)
theorem cw_X10_210 {R : Room} {s : State} {args : Array Value} {rm : Room} {mc ms : Nat} (hts : ∀ w ∈ GW, w.before args s = true) (hrc : rm.cells = mc) (hrs : rm.slots = ms) (hR : rm.frames + 1 ≤ R.frames ∧ 8 + (3 + 11) + rm.locals ≤ R.locals) : CallW R s args RX10 RX9 210 yX9_allWhite cX9_allWhite 3 (some .int) (wl yX9_allWhite cX9_allWhite 3 (some .int)) rm mc ms 0 := cwV 0 hts (gi_V t741 t742 t743 t15 t744) rfl hrc hrs (by decide +kernel) hR
theorem dX10_now_101 : decode cX10_now 101 = .ok (.ireturn, 1) := by decide +kernel
theorem dX10_now_102 : decode cX10_now 102 = .ok (.aload_n 0, 1) := by decide +kernel
theorem dX10_now_103 : decode cX10_now 103 = .ok (.getfield 76, 3) := by decide +kernel
theorem dX10_now_106 : decode cX10_now 106 = .ok (.invokevirtual 213, 3) := by decide +kernel
theorem t746 : Cond.methodLink RX10 213 yX9_allDark ∈ GW := gw_mem 860 (by decide +kernel) (by decide +kernel)
theorem t747 : Cond.instanceMethod yX9_allDark ∈ GW := gw_mem 861 (by decide +kernel) (by decide +kernel)
theorem t748 : Cond.selects RX9 yX9_allDark yX9_allDark ∈ GW := gw_mem 862 (by decide +kernel) (by decide +kernel)
theorem cw_X10_213 {R : Room} {s : State} {args : Array Value} {rm : Room} {mc ms : Nat} (hts : ∀ w ∈ GW, w.before args s = true) (hrc : rm.cells = mc) (hrs : rm.slots = ms) (hR : rm.frames + 1 ≤ R.frames ∧ 8 + (3 + 11) + rm.locals ≤ R.locals) : CallW R s args RX10 RX9 213 yX9_allDark cX9_allDark 3 (some .int) (wl yX9_allDark cX9_allDark 3 (some .int)) rm mc ms 0 := cwV 0 hts (gi_V t746 t747 t748 t15 t749) rfl hrc hrs (by decide +kernel) hR
theorem dX10_now_109 : decode cX10_now 109 = .ok (.ireturn, 1) := by decide +kernel
theorem dX10_now_110 : decode cX10_now 110 = .ok (.aload_n 0, 1) := by decide +kernel
theorem dX10_now_111 : decode cX10_now 111 = .ok (.getfield 76, 3) := by decide +kernel
theorem dX10_now_114 : decode cX10_now 114 = .ok (.getfield 98, 3) := by decide +kernel
theorem dX10_now_117 : decode cX10_now 117 = .ok (.invokevirtual 216, 3) := by decide +kernel
theorem t751 : Cond.methodLink RX10 216 yX4_sittings ∈ GW := gw_mem 865 (by decide +kernel) (by decide +kernel)
theorem t10 : Cond.initialized RX4 ∈ GW := gw_mem 124 (by decide +kernel) (by decide +kernel)
theorem t752 : Cond.instanceMethod yX4_sittings ∈ GW := gw_mem 866 (by decide +kernel) (by decide +kernel)
theorem t753 : Cond.selects RX4 yX4_sittings yX4_sittings ∈ GW := gw_mem 867 (by decide +kernel) (by decide +kernel)
theorem cw_X10_216 {R : Room} {s : State} {args : Array Value} {rm : Room} {mc ms : Nat} (hts : ∀ w ∈ GW, w.before args s = true) (hrc : rm.cells = mc) (hrs : rm.slots = ms) (hR : rm.frames + 1 ≤ R.frames ∧ 8 + (3 + 11) + rm.locals ≤ R.locals) : CallW R s args RX10 RX4 216 yX4_sittings cX4_sittings 3 (some .int) (wl yX4_sittings cX4_sittings 3 (some .int)) rm mc ms 0 := cwV 0 hts (gi_V t751 t752 t753 t10 t754) rfl hrc hrs (by decide +kernel) hR
theorem dX10_now_120 : decode cX10_now 120 = .ok (.ireturn, 1) := by decide +kernel
set_option maxHeartbeats 4000000 in
set_option maxRecDepth 100000 in
theorem k_now (l : Launch) (dC : Nat → ClassId) (dI : Nat → Nat → Nat) (cy : Nat → ClassId) (ad : Nat → Nat) (ai : Nat → Nat → Int32) (n0 : Int32) (hs : ∀ j : Nat, j < 7 → ai 44 j = 0) : Met l yX10_now (wl yX10_now cX10_now 2 (some .int)) ({ frames := 2, cells := 0, slots := 0, locals := 128 }) (Pr (dC, dI) vwCl cy [(ad 0, .inr (11, [.ref (ad 1), .ref (ad 4), .ref (ad 5), .ref (ad 10), .ref (ad 23), .ref (ad 24), .ref (ad 25), .ref (ad 27), .ref (ad 28), .ref (ad 29), .ref (ad 30), .ref (ad 31), .ref (ad 54), .int 0, .int (-1), .int 0, .int 0])), (ad 31, .inr (10, [.ref (ad 32), .ref (ad 38), .ref (ad 49)])), (ad 32, .inr (2, [.ref (ad 33), .ref (ad 34), .ref (ad 35), .ref (ad 36), .ref (ad 37), .int 0, .int 0, .int 60, .int 10])), (ad 38, .inr (5, [.ref (ad 39), .ref (ad 40), .ref (ad 41), .ref (ad 42), .ref (ad 43), .ref (ad 44), .ref (ad 45), .ref (ad 46), .ref (ad 47), .ref (ad 48), .int 0])), (ad 44, .inl (cy 0, 7, .inl (ai 44)))] [.ref (ad 0), .int n0]) (Ri (fun r => r = nowF n0)) 0 0 (fun _ => False) := by
  refine mr RX10 rfl (by decide +kernel) (Nat.le_of_ble_eq_true rfl) ?_
  intro p e s m below meth c hx hb hr hlocks av9 hav hts hown hml hK hP hS Q9 hQ9 ls hl
  have hl : lv_has ls 2 [(0, .ref (ad 0)), (1, .int n0)] := hl
  refine lv_iload_n hx hb dX10_now_0 rfl (lv_at hl 1 rfl) ?_
  by_cases sw_1 : n0.toInt < 0 ∨ 7 < n0.toInt
  · refine lv_tableOut (tgt := 121) hx hb dX10_now_1 sw_1 (by decide) ?_
    refine lv_iconst (v := (-1)) hx hb dX10_now_121 (by decide) ?_
    rw [hQ9]
    exact rr_i hx hb hr hlocks (show _ = nowF n0 from (if_pos sw_1).symm) hS dX10_now_122
  · have sw_1a : n0 = 0 ∨ n0 = 1 ∨ n0 = 2 ∨ n0 = 3 ∨ n0 = 4 ∨ n0 = 5 ∨ n0 = 6 ∨ n0 = 7 := sw_cases_0_7 n0 sw_1
    rcases sw_1a with sw_1b | sw_1b | sw_1b | sw_1b | sw_1b | sw_1b | sw_1b | sw_1b
    · refine as_i 0 sw_1b ?_
      refine lv_tableIn (off := 47) (tgt := 48) hx hb dX10_now_1 (by decide) (by decide) (by decide) (by decide) ?_
      refine lv_aload_n hx hb dX10_now_48 rfl (lv_at hl 0 rfl) ?_
      refine gf_X10_76 hx hb hts hown hK hP 0 rfl rfl dX10_now_49 ?_
      refine gf_X10_98 hx hb hts hown hK hP 1 rfl rfl dX10_now_52 ?_
      refine gf_X10_200 hx hb hts hown hK hP 3 rfl rfl dX10_now_55 ?_
      rw [hQ9]
      exact rr_i hx hb hr hlocks (show _ = nowF n0 from (if_neg sw_1).symm) hS dX10_now_58
    · refine as_i 1 sw_1b ?_
      refine lv_tableIn (off := 58) (tgt := 59) hx hb dX10_now_1 (by decide) (by decide) (by decide) (by decide) ?_
      refine lv_aload_n hx hb dX10_now_59 rfl (lv_at hl 0 rfl) ?_
      refine gf_X10_76 hx hb hts hown hK hP 0 rfl rfl dX10_now_60 ?_
      refine lv_iconst (v := 0) hx hb dX10_now_63 (by decide) ?_
      refine jr_i (rVr (As := [.int 0]) (rest := []) (ci := 10) ⟨hx, hb, hml, hown, hts⟩ (k_whoIs l dC dI cy ad 0 ) (cw_X10_203 hts rfl rfl ⟨Nat.le_of_ble_eq_true rfl, Nat.le_of_ble_eq_true rfl⟩) hP hK [1, 2] rfl rfl rfl rfl hl.1 rfl (Nat.le_of_ble_eq_true rfl) dX10_now_64 ⟨Nat.le_of_ble_eq_true rfl, Nat.le_of_ble_eq_true rfl⟩) hP hS (fun r_2 H locs hp_3 hP hS => ?_)
      refine as_i 0 hp_3 ?_
      rw [hQ9]
      exact rr_i hx hb hr hlocks (show _ = nowF n0 from (if_neg sw_1).symm) hS dX10_now_67
    · refine as_i 2 sw_1b ?_
      refine lv_tableIn (off := 67) (tgt := 68) hx hb dX10_now_1 (by decide) (by decide) (by decide) (by decide) ?_
      refine lv_aload_n hx hb dX10_now_68 rfl (lv_at hl 0 rfl) ?_
      refine gf_X10_76 hx hb hts hown hK hP 0 rfl rfl dX10_now_69 ?_
      refine lv_iconst (v := 1) hx hb dX10_now_72 (by decide) ?_
      refine jr_i (rVr (As := [.int 1]) (rest := []) (ci := 10) ⟨hx, hb, hml, hown, hts⟩ (k_whoIs l dC dI cy ad 1 ) (cw_X10_203 hts rfl rfl ⟨Nat.le_of_ble_eq_true rfl, Nat.le_of_ble_eq_true rfl⟩) hP hK [1, 2] rfl rfl rfl rfl hl.1 rfl (Nat.le_of_ble_eq_true rfl) dX10_now_73 ⟨Nat.le_of_ble_eq_true rfl, Nat.le_of_ble_eq_true rfl⟩) hP hS (fun r_4 H locs hp_5 hP hS => ?_)
      refine as_i 0 hp_5 ?_
      rw [hQ9]
      exact rr_i hx hb hr hlocks (show _ = nowF n0 from (if_neg sw_1).symm) hS dX10_now_76
    · refine as_i 3 sw_1b ?_
      refine lv_tableIn (off := 76) (tgt := 77) hx hb dX10_now_1 (by decide) (by decide) (by decide) (by decide) ?_
      refine lv_aload_n hx hb dX10_now_77 rfl (lv_at hl 0 rfl) ?_
      refine gf_X10_76 hx hb hts hown hK hP 0 rfl rfl dX10_now_78 ?_
      refine lv_iconst (v := 2) hx hb dX10_now_81 (by decide) ?_
      refine jr_i (rVr (As := [.int 2]) (rest := []) (ci := 10) ⟨hx, hb, hml, hown, hts⟩ (k_whoIs l dC dI cy ad 2 ) (cw_X10_203 hts rfl rfl ⟨Nat.le_of_ble_eq_true rfl, Nat.le_of_ble_eq_true rfl⟩) hP hK [1, 2] rfl rfl rfl rfl hl.1 rfl (Nat.le_of_ble_eq_true rfl) dX10_now_82 ⟨Nat.le_of_ble_eq_true rfl, Nat.le_of_ble_eq_true rfl⟩) hP hS (fun r_6 H locs hp_7 hP hS => ?_)
      refine as_i 0 hp_7 ?_
      rw [hQ9]
      exact rr_i hx hb hr hlocks (show _ = nowF n0 from (if_neg sw_1).symm) hS dX10_now_85
    · refine as_i 4 sw_1b ?_
      refine lv_tableIn (off := 85) (tgt := 86) hx hb dX10_now_1 (by decide) (by decide) (by decide) (by decide) ?_
      refine lv_aload_n hx hb dX10_now_86 rfl (lv_at hl 0 rfl) ?_
      refine gf_X10_76 hx hb hts hown hK hP 0 rfl rfl dX10_now_87 ?_
      refine jr_i (rVr (As := []) (rest := []) (ci := 10) ⟨hx, hb, hml, hown, hts⟩ (k_whoLends l dC dI cy ad ) (cw_X10_206 hts rfl rfl ⟨Nat.le_of_ble_eq_true rfl, Nat.le_of_ble_eq_true rfl⟩) hP hK [1, 2] rfl rfl rfl rfl hl.1 rfl (Nat.le_of_ble_eq_true rfl) dX10_now_90 ⟨Nat.le_of_ble_eq_true rfl, Nat.le_of_ble_eq_true rfl⟩) hP hS (fun r_8 H locs hp_9 hP hS => ?_)
      refine as_i 0 hp_9 ?_
      rw [hQ9]
      exact rr_i hx hb hr hlocks (show _ = nowF n0 from (if_neg sw_1).symm) hS dX10_now_93
    · refine as_i 5 sw_1b ?_
      refine lv_tableIn (off := 93) (tgt := 94) hx hb dX10_now_1 (by decide) (by decide) (by decide) (by decide) ?_
      refine lv_aload_n hx hb dX10_now_94 rfl (lv_at hl 0 rfl) ?_
      refine gf_X10_76 hx hb hts hown hK hP 0 rfl rfl dX10_now_95 ?_
      refine jr_i (rVr (As := []) (rest := []) (ci := 10) ⟨hx, hb, hml, hown, hts⟩ (k_allWhite l dC dI cy ad ) (cw_X10_210 hts rfl rfl ⟨Nat.le_of_ble_eq_true rfl, Nat.le_of_ble_eq_true rfl⟩) hP hK [1, 2] rfl rfl rfl rfl hl.1 rfl (Nat.le_of_ble_eq_true rfl) dX10_now_98 ⟨Nat.le_of_ble_eq_true rfl, Nat.le_of_ble_eq_true rfl⟩) hP hS (fun r_10 H locs hp_11 hP hS => ?_)
      refine as_i 0 hp_11 ?_
      rw [hQ9]
      exact rr_i hx hb hr hlocks (show _ = nowF n0 from (if_neg sw_1).symm) hS dX10_now_101
    · refine as_i 6 sw_1b ?_
      refine lv_tableIn (off := 101) (tgt := 102) hx hb dX10_now_1 (by decide) (by decide) (by decide) (by decide) ?_
      refine lv_aload_n hx hb dX10_now_102 rfl (lv_at hl 0 rfl) ?_
      refine gf_X10_76 hx hb hts hown hK hP 0 rfl rfl dX10_now_103 ?_
      refine jr_i (rVr (As := []) (rest := []) (ci := 10) ⟨hx, hb, hml, hown, hts⟩ (k_allDark l dC dI cy ad ) (cw_X10_213 hts rfl rfl ⟨Nat.le_of_ble_eq_true rfl, Nat.le_of_ble_eq_true rfl⟩) hP hK [1, 2] rfl rfl rfl rfl hl.1 rfl (Nat.le_of_ble_eq_true rfl) dX10_now_106 ⟨Nat.le_of_ble_eq_true rfl, Nat.le_of_ble_eq_true rfl⟩) hP hS (fun r_12 H locs hp_13 hP hS => ?_)
      refine as_i 0 hp_13 ?_
      rw [hQ9]
      exact rr_i hx hb hr hlocks (show _ = nowF n0 from (if_neg sw_1).symm) hS dX10_now_109
    · refine as_i 7 sw_1b ?_
      refine lv_tableIn (off := 109) (tgt := 110) hx hb dX10_now_1 (by decide) (by decide) (by decide) (by decide) ?_
      refine lv_aload_n hx hb dX10_now_110 rfl (lv_at hl 0 rfl) ?_
      refine gf_X10_76 hx hb hts hown hK hP 0 rfl rfl dX10_now_111 ?_
      refine gf_X10_98 hx hb hts hown hK hP 1 rfl rfl dX10_now_114 ?_
      refine jr_i (rVr (As := []) (rest := []) (ci := 5) ⟨hx, hb, hml, hown, hts⟩ (k_sittings l dC dI cy ad ai hs) (cw_X10_216 hts rfl rfl ⟨Nat.le_of_ble_eq_true rfl, Nat.le_of_ble_eq_true rfl⟩) hP hK [3, 4] rfl rfl rfl rfl hl.1 rfl (Nat.le_of_ble_eq_true rfl) dX10_now_117 ⟨Nat.le_of_ble_eq_true rfl, Nat.le_of_ble_eq_true rfl⟩) hP hS (fun r_14 H locs hp_15 hP hS => ?_)
      refine as_i 0 hp_15 ?_
      rw [hQ9]
      exact rr_i hx hb hr hlocks (show _ = nowF n0 from (if_neg sw_1).symm) hS dX10_now_120
abbrev cX1_allMen : ByteArray := prog_3_method_4_code
def yX1_allMen : MethodName := ⟨RX1, "allMen", "()I"⟩
theorem t865 : Cond.code yX1_allMen cX1_allMen 1 (some .int) ∈ GW := gw_mem 979 (by decide +kernel) (by decide +kernel)
theorem dX1_allMen_0 : decode cX1_allMen 0 = .ok (.iconst 1, 1) := by decide +kernel
theorem dX1_allMen_1 : decode cX1_allMen 1 = .ok (.aload_n 0, 1) := by decide +kernel
theorem dX1_allMen_2 : decode cX1_allMen 2 = .ok (.getfield 36, 3) := by decide +kernel
theorem t390 : Cond.fieldLink RX1 36 "LikenessPound$Colony" "men" "I" ∈ GW := gw_mem 504 (by decide +kernel) (by decide +kernel)
theorem gf_X1_36 {p : Program} {l : Launch} {e : Env} {R : Room} {s : State} {m : MethodId} {args : Array Value} {below : List Frame} {meth : Method} {c : Code} {H : Heap} {locs : List Loc} {cells slots : Nat} {Q : State → Prop} {cc : ByteArray} {pc : Nat} {ls : Array Slot} {rest : List Value} {D : va_G} {a : Nat} {tys : List (ClassId × FieldType)} {ws : va_W} (hx : p.tables.exec = Jvm.exec) (hb : c.code = cc) (hts : ∀ w ∈ GW, w.before args s = true) (hown : s.vm.findClass RX1 = some m.cls) (hK : va_K D vwCl tys s) (hP : va_P D vwCl ws H) (q0 : Nat) {fs : List Value} (he : ws[q0]? = some (a, .inr (2, fs))) {v : Value} (hv : fs[5]? = some v) (hdg : decode cc pc = .ok (.getfield 36, 3)) (kk : W p l e R s m args below meth c H locs cells slots Q (F0 m (pc + 3) ls (v :: rest))) : W p l e R s m args below meth c H locs cells slots Q (F0 m pc ls (.ref a :: rest)) := va_get (C := RX1) (T := TX1) (N := 9) (ci := 2) hx hb hts inX1 hown hK hP q0 he rfl 5 (by decide) (hts _ t390) (fun _ h => h) hv hdg kk
theorem dX1_allMen_5 : decode cX1_allMen 5 = .ok (.ishl, 1) := by decide +kernel
theorem dX1_allMen_6 : decode cX1_allMen 6 = .ok (.iconst 1, 1) := by decide +kernel
theorem dX1_allMen_7 : decode cX1_allMen 7 = .ok (.isub, 1) := by decide +kernel
theorem dX1_allMen_8 : decode cX1_allMen 8 = .ok (.ireturn, 1) := by decide +kernel
set_option maxHeartbeats 4000000 in
set_option maxRecDepth 100000 in
theorem k_allMen (l : Launch) (dC : Nat → ClassId) (dI : Nat → Nat → Nat) (cy : Nat → ClassId) (ad : Nat → Nat)  : Met l yX1_allMen (wl yX1_allMen cX1_allMen 1 (some .int)) ({ frames := 0, cells := 0, slots := 0, locals := 0 }) (Pr (dC, dI) vwCl cy [(ad 32, .inr (2, [.ref (ad 33), .ref (ad 34), .ref (ad 35), .ref (ad 36), .ref (ad 37), .int 0, .int 0, .int 60, .int 10]))] [.ref (ad 32)]) (Ri (fun r => r = 0)) 0 0 (fun _ => False) := by
  refine mr RX1 rfl (by decide +kernel) (Nat.le_of_ble_eq_true rfl) ?_
  intro p e s m below meth c hx hb hr hlocks av9 hav hts hown hml hK hP hS Q9 hQ9 ls hl
  have hl : lv_has ls 1 [(0, .ref (ad 32))] := hl
  refine lv_iconst (v := 1) hx hb dX1_allMen_0 (by decide) ?_
  refine lv_aload_n hx hb dX1_allMen_1 rfl (lv_at hl 0 rfl) ?_
  refine gf_X1_36 hx hb hts hown hK hP 0 rfl rfl dX1_allMen_2 ?_
  refine lv_ishl hx hb dX1_allMen_5 ?_
  refine as_i 1 (by decide) ?_
  refine lv_iconst (v := 1) hx hb dX1_allMen_6 (by decide) ?_
  refine lv_isub hx hb dX1_allMen_7 ?_
  refine as_i 0 (by decide) ?_
  rw [hQ9]
  exact rr_i hx hb hr hlocks rfl hS dX1_allMen_8
def balF (x y : Int32) : Int32 := if x &&& y = 0 then (if (x ||| y) &&& (-1) = 0 then 0 else -1) else -1
abbrev cX10_balance : ByteArray := prog_1_method_23_code
def yX10_balance : MethodName := ⟨RX10, "balance", "(II)I"⟩
theorem t861 : Cond.code yX10_balance cX10_balance 5 (some .int) ∈ GW := gw_mem 975 (by decide +kernel) (by decide +kernel)
theorem dX10_balance_0 : decode cX10_balance 0 = .ok (.aload_n 0, 1) := by decide +kernel
theorem dX10_balance_1 : decode cX10_balance 1 = .ok (.getfield 76, 3) := by decide +kernel
theorem dX10_balance_4 : decode cX10_balance 4 = .ok (.getfield 94, 3) := by decide +kernel
theorem dX10_balance_7 : decode cX10_balance 7 = .ok (.invokevirtual 263, 3) := by decide +kernel
theorem t862 : Cond.methodLink RX10 263 yX1_allMen ∈ GW := gw_mem 976 (by decide +kernel) (by decide +kernel)
theorem t16 : Cond.initialized RX1 ∈ GW := gw_mem 130 (by decide +kernel) (by decide +kernel)
theorem t863 : Cond.instanceMethod yX1_allMen ∈ GW := gw_mem 977 (by decide +kernel) (by decide +kernel)
theorem t864 : Cond.selects RX1 yX1_allMen yX1_allMen ∈ GW := gw_mem 978 (by decide +kernel) (by decide +kernel)
theorem cw_X10_263 {R : Room} {s : State} {args : Array Value} {rm : Room} {mc ms : Nat} (hts : ∀ w ∈ GW, w.before args s = true) (hrc : rm.cells = mc) (hrs : rm.slots = ms) (hR : rm.frames + 1 ≤ R.frames ∧ 8 + (1 + 11) + rm.locals ≤ R.locals) : CallW R s args RX10 RX1 263 yX1_allMen cX1_allMen 1 (some .int) (wl yX1_allMen cX1_allMen 1 (some .int)) rm mc ms 0 := cwV 0 hts (gi_V t862 t863 t864 t16 t865) rfl hrc hrs (by decide +kernel) hR
theorem dX10_balance_10 : decode cX10_balance 10 = .ok (.istore_n 3, 1) := by decide +kernel
theorem dX10_balance_11 : decode cX10_balance 11 = .ok (.iload_n 1, 1) := by decide +kernel
theorem dX10_balance_12 : decode cX10_balance 12 = .ok (.iload_n 2, 1) := by decide +kernel
theorem dX10_balance_13 : decode cX10_balance 13 = .ok (.iand, 1) := by decide +kernel
theorem dX10_balance_14 : decode cX10_balance 14 = .ok (.ifCond .ne 13, 3) := by decide +kernel
theorem dX10_balance_27 : decode cX10_balance 27 = .ok (.iconst (-1), 1) := by decide +kernel
theorem dX10_balance_28 : decode cX10_balance 28 = .ok (.ireturn, 1) := by decide +kernel
theorem dX10_balance_17 : decode cX10_balance 17 = .ok (.iload_n 1, 1) := by decide +kernel
theorem dX10_balance_18 : decode cX10_balance 18 = .ok (.iload_n 2, 1) := by decide +kernel
theorem dX10_balance_19 : decode cX10_balance 19 = .ok (.ior, 1) := by decide +kernel
theorem dX10_balance_20 : decode cX10_balance 20 = .ok (.iload_n 3, 1) := by decide +kernel
theorem dX10_balance_21 : decode cX10_balance 21 = .ok (.iconst (-1), 1) := by decide +kernel
theorem dX10_balance_22 : decode cX10_balance 22 = .ok (.ixor, 1) := by decide +kernel
theorem dX10_balance_23 : decode cX10_balance 23 = .ok (.iand, 1) := by decide +kernel
theorem dX10_balance_24 : decode cX10_balance 24 = .ok (.ifCond .eq 5, 3) := by decide +kernel
theorem dX10_balance_29 : decode cX10_balance 29 = .ok (.aload_n 0, 1) := by decide +kernel
theorem dX10_balance_30 : decode cX10_balance 30 = .ok (.getfield 76, 3) := by decide +kernel
theorem dX10_balance_33 : decode cX10_balance 33 = .ok (.iload_n 1, 1) := by decide +kernel
theorem dX10_balance_34 : decode cX10_balance 34 = .ok (.invokevirtual 266, 3) := by decide +kernel
theorem t866 : Cond.methodLink RX10 266 yX9_weightOfAll ∈ GW := gw_mem 980 (by decide +kernel) (by decide +kernel)
theorem t867 : Cond.instanceMethod yX9_weightOfAll ∈ GW := gw_mem 981 (by decide +kernel) (by decide +kernel)
theorem t868 : Cond.selects RX9 yX9_weightOfAll yX9_weightOfAll ∈ GW := gw_mem 982 (by decide +kernel) (by decide +kernel)
theorem cw_X10_266 {R : Room} {s : State} {args : Array Value} {rm : Room} {mc ms : Nat} (hts : ∀ w ∈ GW, w.before args s = true) (hrc : rm.cells = mc) (hrs : rm.slots = ms) (hR : rm.frames + 1 ≤ R.frames ∧ 8 + (4 + 11) + rm.locals ≤ R.locals) : CallW R s args RX10 RX9 266 yX9_weightOfAll cX9_weightOfAll 4 (some .int) (wl yX9_weightOfAll cX9_weightOfAll 4 (some .int)) rm mc ms 1 := cwV 1 hts (gi_V t866 t867 t868 t15 t869) rfl hrc hrs (by decide +kernel) hR
theorem dX10_balance_37 : decode cX10_balance 37 = .ok (.aload_n 0, 1) := by decide +kernel
theorem dX10_balance_38 : decode cX10_balance 38 = .ok (.getfield 76, 3) := by decide +kernel
theorem dX10_balance_41 : decode cX10_balance 41 = .ok (.iload_n 2, 1) := by decide +kernel
theorem dX10_balance_42 : decode cX10_balance 42 = .ok (.invokevirtual 266, 3) := by decide +kernel
theorem dX10_balance_45 : decode cX10_balance 45 = .ok (.isub, 1) := by decide +kernel
theorem dX10_balance_46 : decode cX10_balance 46 = .ok (.istore 4, 2) := by decide +kernel
theorem dX10_balance_48 : decode cX10_balance 48 = .ok (.iload 4, 2) := by decide +kernel
theorem dX10_balance_50 : decode cX10_balance 50 = .ok (.ifCond .ne 5, 3) := by decide +kernel
theorem dX10_balance_53 : decode cX10_balance 53 = .ok (.iconst 0, 1) := by decide +kernel
theorem dX10_balance_54 : decode cX10_balance 54 = .ok (.ireturn, 1) := by decide +kernel
set_option maxHeartbeats 4000000 in
set_option maxRecDepth 100000 in
theorem k_balance (l : Launch) (dC : Nat → ClassId) (dI : Nat → Nat → Nat) (cy : Nat → ClassId) (ad : Nat → Nat) (n0 : Int32) (n1 : Int32)  : Met l yX10_balance (wl yX10_balance cX10_balance 5 (some .int)) ({ frames := 2, cells := 0, slots := 0, locals := 128 }) (Pr (dC, dI) vwCl cy [(ad 0, .inr (11, [.ref (ad 1), .ref (ad 4), .ref (ad 5), .ref (ad 10), .ref (ad 23), .ref (ad 24), .ref (ad 25), .ref (ad 27), .ref (ad 28), .ref (ad 29), .ref (ad 30), .ref (ad 31), .ref (ad 54), .int 0, .int (-1), .int 0, .int 0])), (ad 31, .inr (10, [.ref (ad 32), .ref (ad 38), .ref (ad 49)])), (ad 32, .inr (2, [.ref (ad 33), .ref (ad 34), .ref (ad 35), .ref (ad 36), .ref (ad 37), .int 0, .int 0, .int 60, .int 10]))] [.ref (ad 0), .int n0, .int n1]) (Ri (fun r => r = balF n0 n1)) 0 0 (fun _ => False) := by
  refine mr RX10 rfl (by decide +kernel) (Nat.le_of_ble_eq_true rfl) ?_
  intro p e s m below meth c hx hb hr hlocks av9 hav hts hown hml hK hP hS Q9 hQ9 ls hl
  have hl : lv_has ls 5 [(0, .ref (ad 0)), (1, .int n0), (2, .int n1)] := hl
  refine lv_aload_n hx hb dX10_balance_0 rfl (lv_at hl 0 rfl) ?_
  refine gf_X10_76 hx hb hts hown hK hP 0 rfl rfl dX10_balance_1 ?_
  refine gf_X10_94 hx hb hts hown hK hP 1 rfl rfl dX10_balance_4 ?_
  refine jr_i (rVr (As := []) (rest := []) (ci := 2) ⟨hx, hb, hml, hown, hts⟩ (k_allMen l dC dI cy ad ) (cw_X10_263 hts rfl rfl ⟨Nat.le_of_ble_eq_true rfl, Nat.le_of_ble_eq_true rfl⟩) hP hK [2] rfl rfl rfl rfl hl.1 rfl (Nat.le_of_ble_eq_true rfl) dX10_balance_7 ⟨Nat.le_of_ble_eq_true rfl, Nat.le_of_ble_eq_true rfl⟩) hP hS (fun r_1 H locs hp_2 hP hS => ?_)
  refine as_i 0 hp_2 ?_
  refine lv_istore_n (lv' := [(3, .int 0), (0, .ref (ad 0)), (1, .int n0), (2, .int n1)]) hx hb dX10_balance_10 rfl hl (by decide) rfl (fun ls hl => ?_)
  refine lv_iload_n hx hb dX10_balance_11 rfl (lv_at hl 2 rfl) ?_
  refine lv_iload_n hx hb dX10_balance_12 rfl (lv_at hl 3 rfl) ?_
  refine lv_iand hx hb dX10_balance_13 ?_
  refine lv_if_ne (tgt := 27) hx hb dX10_balance_14 (by decide) (fun c_3 => ?_) (fun c_3 => ?_)
  · skip
    refine lv_iconst (v := (-1)) hx hb dX10_balance_27 (by decide) ?_
    rw [hQ9]
    exact rr_i hx hb hr hlocks (by unfold balF; simp only [c_3, if_true, if_false, not_false_eq_true]) hS dX10_balance_28
  · skip
    refine lv_iload_n hx hb dX10_balance_17 rfl (lv_at hl 2 rfl) ?_
    refine lv_iload_n hx hb dX10_balance_18 rfl (lv_at hl 3 rfl) ?_
    refine lv_ior hx hb dX10_balance_19 ?_
    refine lv_iload_n hx hb dX10_balance_20 rfl (lv_at hl 0 rfl) ?_
    refine lv_iconst (v := (-1)) hx hb dX10_balance_21 (by decide) ?_
    refine lv_ixor hx hb dX10_balance_22 ?_
    refine as_i (-1) (by decide) ?_
    refine lv_iand hx hb dX10_balance_23 ?_
    refine lv_if_eq (tgt := 29) hx hb dX10_balance_24 (by decide) (fun c_4 => ?_) (fun c_4 => ?_)
    · skip
      refine lv_aload_n hx hb dX10_balance_29 rfl (lv_at hl 1 rfl) ?_
      refine gf_X10_76 hx hb hts hown hK hP 0 rfl rfl dX10_balance_30 ?_
      refine lv_iload_n hx hb dX10_balance_33 rfl (lv_at hl 2 rfl) ?_
      refine jr_i (rVr (As := [.int n0]) (rest := []) (ci := 10) ⟨hx, hb, hml, hown, hts⟩ (k_weightOfAll l dC dI cy ad n0 ) (cw_X10_266 hts rfl rfl ⟨Nat.le_of_ble_eq_true rfl, Nat.le_of_ble_eq_true rfl⟩) hP hK [1, 2] rfl rfl rfl rfl hl.1 rfl (Nat.le_of_ble_eq_true rfl) dX10_balance_34 ⟨Nat.le_of_ble_eq_true rfl, Nat.le_of_ble_eq_true rfl⟩) hP hS (fun r_5 H locs hp_6 hP hS => ?_)
      refine as_i 0 hp_6 ?_
      refine lv_aload_n hx hb dX10_balance_37 rfl (lv_at hl 1 rfl) ?_
      refine gf_X10_76 hx hb hts hown hK hP 0 rfl rfl dX10_balance_38 ?_
      refine lv_iload_n hx hb dX10_balance_41 rfl (lv_at hl 3 rfl) ?_
      refine jr_i (rVr (As := [.int n1]) (rest := [.int 0]) (ci := 10) ⟨hx, hb, hml, hown, hts⟩ (k_weightOfAll l dC dI cy ad n1 ) (cw_X10_266 hts rfl rfl ⟨Nat.le_of_ble_eq_true rfl, Nat.le_of_ble_eq_true rfl⟩) hP hK [1, 2] rfl rfl rfl rfl hl.1 rfl (Nat.le_of_ble_eq_true rfl) dX10_balance_42 ⟨Nat.le_of_ble_eq_true rfl, Nat.le_of_ble_eq_true rfl⟩) hP hS (fun r_7 H locs hp_8 hP hS => ?_)
      refine as_i 0 hp_8 ?_
      refine lv_isub hx hb dX10_balance_45 ?_
      refine as_i 0 (by decide) ?_
      refine lv_istore (lv' := [(4, .int 0), (3, .int 0), (0, .ref (ad 0)), (1, .int n0), (2, .int n1)]) hx hb dX10_balance_46 hl (by decide) rfl (fun ls hl => ?_)
      refine lv_iload hx hb dX10_balance_48 (lv_at hl 0 rfl) ?_
      refine lv_if_ne (tgt := 55) hx hb dX10_balance_50 (by decide) (fun c9 => absurd c9 (by decide)) (fun _ => ?_)
      refine lv_iconst (v := 0) hx hb dX10_balance_53 (by decide) ?_
      rw [hQ9]
      exact rr_i hx hb hr hlocks (by unfold balF; simp only [c_3, c_4, if_true, if_false, not_false_eq_true]) hS dX10_balance_54
    · skip
      refine lv_iconst (v := (-1)) hx hb dX10_balance_27 (by decide) ?_
      rw [hQ9]
      exact rr_i hx hb hr hlocks (by unfold balF; simp only [c_3, c_4, if_true, if_false, not_false_eq_true]) hS dX10_balance_28
theorem two_of {x : Int32} (h : ¬ x < 0) (h2 : ¬ (2 : Int32) ≤ x) : x = 0 ∨ x = 1 := by
  obtain ⟨j, hj, rfl⟩ := nI_of h
  have h3 : ¬ nI 2 ≤ nI j := h2
  rw [nI_leI (by decide) hj] at h3
  have h4 : j = 0 ∨ j = 1 := by omega
  rcases h4 with rfl | rfl
  · exact Or.inl rfl
  · exact Or.inr rfl
abbrev cX10_restore : ByteArray := prog_1_method_41_code
def yX10_restore : MethodName := ⟨RX10, "restore", "(I)Z"⟩
theorem t1345 : Cond.code yX10_restore cX10_restore 2 (some .boolean) ∈ GW := gw_mem 1459 (by decide +kernel) (by decide +kernel)
theorem dX10_restore_0 : decode cX10_restore 0 = .ok (.iload_n 1, 1) := by decide +kernel
theorem dX10_restore_1 : decode cX10_restore 1 = .ok (.ifCond .lt 17, 3) := by decide +kernel
theorem dX10_restore_18 : decode cX10_restore 18 = .ok (.iconst 0, 1) := by decide +kernel
theorem dX10_restore_19 : decode cX10_restore 19 = .ok (.ireturn, 1) := by decide +kernel
theorem dX10_restore_4 : decode cX10_restore 4 = .ok (.iload_n 1, 1) := by decide +kernel
theorem dX10_restore_5 : decode cX10_restore 5 = .ok (.iconst 2, 1) := by decide +kernel
theorem dX10_restore_6 : decode cX10_restore 6 = .ok (.if_icmp .ge 12, 3) := by decide +kernel
theorem dX10_restore_9 : decode cX10_restore 9 = .ok (.aload_n 0, 1) := by decide +kernel
theorem dX10_restore_10 : decode cX10_restore 10 = .ok (.getfield 71, 3) := by decide +kernel
theorem t487 : Cond.fieldLink RX10 71 "LikenessPound" "imageKept" "[Z" ∈ GW := gw_mem 601 (by decide +kernel) (by decide +kernel)
theorem gf_X10_71 {p : Program} {l : Launch} {e : Env} {R : Room} {s : State} {m : MethodId} {args : Array Value} {below : List Frame} {meth : Method} {c : Code} {H : Heap} {locs : List Loc} {cells slots : Nat} {Q : State → Prop} {cc : ByteArray} {pc : Nat} {ls : Array Slot} {rest : List Value} {D : va_G} {a : Nat} {tys : List (ClassId × FieldType)} {ws : va_W} (hx : p.tables.exec = Jvm.exec) (hb : c.code = cc) (hts : ∀ w ∈ GW, w.before args s = true) (hown : s.vm.findClass RX10 = some m.cls) (hK : va_K D vwCl tys s) (hP : va_P D vwCl ws H) (q0 : Nat) {fs : List Value} (he : ws[q0]? = some (a, .inr (11, fs))) {v : Value} (hv : fs[10]? = some v) (hdg : decode cc pc = .ok (.getfield 71, 3)) (kk : W p l e R s m args below meth c H locs cells slots Q (F0 m (pc + 3) ls (v :: rest))) : W p l e R s m args below meth c H locs cells slots Q (F0 m pc ls (.ref a :: rest)) := va_get (C := RX10) (T := TX10) (N := 17) (ci := 11) hx hb hts inX10 hown hK hP q0 he rfl 10 (by decide) (hts _ t487) (fun _ h => h) hv hdg kk
theorem dX10_restore_13 : decode cX10_restore 13 = .ok (.iload_n 1, 1) := by decide +kernel
theorem dX10_restore_14 : decode cX10_restore 14 = .ok (.baload, 1) := by decide +kernel
theorem dX10_restore_15 : decode cX10_restore 15 = .ok (.ifCond .ne 5, 3) := by decide +kernel
set_option maxHeartbeats 4000000 in
set_option maxRecDepth 100000 in
theorem k_restore (l : Launch) (dC : Nat → ClassId) (dI : Nat → Nat → Nat) (cy : Nat → ClassId) (ad : Nat → Nat) (ai : Nat → Nat → Int32) (n0 : Int32) (hk : ∀ j : Nat, ai 30 j = 0) : Met l yX10_restore (wl yX10_restore cX10_restore 2 (some .boolean)) ({ frames := 1, cells := 0, slots := 0, locals := 64 }) (Pr (dC, dI) vwCl cy [(ad 0, .inr (11, [.ref (ad 1), .ref (ad 4), .ref (ad 5), .ref (ad 10), .ref (ad 23), .ref (ad 24), .ref (ad 25), .ref (ad 27), .ref (ad 28), .ref (ad 29), .ref (ad 30), .ref (ad 31), .ref (ad 54), .int 0, .int (-1), .int 0, .int 0])), (ad 30, .inl (cy 2, 2, .inl (ai 30)))] [.ref (ad 0), .int n0]) (Ri (fun r => r = 0)) 0 0 (fun _ => False) := by
  refine mr RX10 rfl (by decide +kernel) (Nat.le_of_ble_eq_true rfl) ?_
  intro p e s m below meth c hx hb hr hlocks av9 hav hts hown hml hK hP hS Q9 hQ9 ls hl
  have hl : lv_has ls 2 [(0, .ref (ad 0)), (1, .int n0)] := hl
  refine lv_iload_n hx hb dX10_restore_0 rfl (lv_at hl 1 rfl) ?_
  refine lv_if_lt (tgt := 18) hx hb dX10_restore_1 (by decide) (fun c_1 => ?_) (fun c_1 => ?_)
  · skip
    refine lv_iconst (v := 0) hx hb dX10_restore_18 (by decide) ?_
    rw [hQ9]
    exact rr_z hx hb hr hlocks (Or.inl rfl) rfl hS dX10_restore_19
  · skip
    refine lv_iload_n hx hb dX10_restore_4 rfl (lv_at hl 1 rfl) ?_
    refine lv_iconst (v := 2) hx hb dX10_restore_5 (by decide) ?_
    refine lv_icmp_ge (tgt := 18) hx hb dX10_restore_6 (by decide) (fun c_2 => ?_) (fun c_2 => ?_)
    · skip
      refine lv_iconst (v := 0) hx hb dX10_restore_18 (by decide) ?_
      rw [hQ9]
      exact rr_z hx hb hr hlocks (Or.inl rfl) rfl hS dX10_restore_19
    · skip
      have h9 : n0 = 0 ∨ n0 = 1 := two_of c_1 c_2
      rcases h9 with rfl | rfl
      · skip
        refine lv_aload_n hx hb dX10_restore_9 rfl (lv_at hl 0 rfl) ?_
        refine gf_X10_71 hx hb hts hown hK hP 0 rfl rfl dX10_restore_10 ?_
        refine lv_iload_n hx hb dX10_restore_13 rfl (lv_at hl 1 rfl) ?_
        refine va_zald hx hb hK hP 1 2 rfl rfl (vp_in_nI (n := 0) (N := 2) (by decide) (by decide)) dX10_restore_14 ?_
        refine as_i 0 ((congrArg (ai 30) (show (0 : Int32).toNatClampNeg = 0 from rfl)).trans (hk 0)) ?_
        refine lv_if_ne (tgt := 20) hx hb dX10_restore_15 (by decide) (fun c9 => absurd c9 (by decide)) (fun _ => ?_)
        refine lv_iconst (v := 0) hx hb dX10_restore_18 (by decide) ?_
        rw [hQ9]
        exact rr_z hx hb hr hlocks (Or.inl rfl) rfl hS dX10_restore_19
      · skip
        refine lv_aload_n hx hb dX10_restore_9 rfl (lv_at hl 0 rfl) ?_
        refine gf_X10_71 hx hb hts hown hK hP 0 rfl rfl dX10_restore_10 ?_
        refine lv_iload_n hx hb dX10_restore_13 rfl (lv_at hl 1 rfl) ?_
        refine va_zald hx hb hK hP 1 2 rfl rfl (vp_in_nI (n := 1) (N := 2) (by decide) (by decide)) dX10_restore_14 ?_
        refine as_i 0 ((congrArg (ai 30) (show (1 : Int32).toNatClampNeg = 1 from rfl)).trans (hk 1)) ?_
        refine lv_if_ne (tgt := 20) hx hb dX10_restore_15 (by decide) (fun c9 => absurd c9 (by decide)) (fun _ => ?_)
        refine lv_iconst (v := 0) hx hb dX10_restore_18 (by decide) ?_
        rw [hQ9]
        exact rr_z hx hb hr hlocks (Or.inl rfl) rfl hS dX10_restore_19
end
section
theorem up0 {f g : Nat → Int32} {i : Nat} (e : f = upd g i 0) (h : ∀ j, j < i → g j = 0) : ∀ j, j < i + 1 → f j = 0 := by
  intro j hj
  rw [e]
  by_cases h1 : j = i
  · rw [h1]; exact pk_us
  · rw [pk_un h1]; exact h j (by omega)
abbrev cX4_clear : ByteArray := prog_6_method_2_code
def yX4_clear : MethodName := ⟨RX4, "clear", "()V"⟩
theorem t227 : Cond.code yX4_clear cX4_clear 2 none ∈ GW := gw_mem 341 (by decide +kernel) (by decide +kernel)
theorem dX4_clear_0 : decode cX4_clear 0 = .ok (.aload_n 0, 1) := by decide +kernel
theorem dX4_clear_1 : decode cX4_clear 1 = .ok (.iconst 0, 1) := by decide +kernel
theorem dX4_clear_2 : decode cX4_clear 2 = .ok (.putfield 45, 3) := by decide +kernel
theorem t266 : Cond.fieldLink RX4 45 "LikenessPound$Life" "year" "I" ∈ GW := gw_mem 380 (by decide +kernel) (by decide +kernel)
theorem pf_X4_45 {p : Program} {l : Launch} {e : Env} {R : Room} {s : State} {m : MethodId} {args : Array Value} {below : List Frame} {meth : Method} {c : Code} {H : Heap} {locs : List Loc} {cells slots : Nat} {Q : State → Prop} {cc : ByteArray} {pc : Nat} {ls : Array Slot} {rest : List Value} {D : va_G} {A : Nat → Prop} {a : Nat} {tys : List (ClassId × FieldType)} {ws : va_W} {H0 : Heap} (hx : p.tables.exec = Jvm.exec) (hb : c.code = cc) (hts : ∀ w ∈ GW, w.before args s = true) (hown : s.vm.findClass RX4 = some m.cls) (hK : va_K D vwCl tys s) (hP : va_P D vwCl ws H) (hD : va_D A ws) (hS0 : va_S A H0 H locs) (q0 : Nat) {fs : List Value} (he : ws[q0]? = some (a, .inr (5, fs))) {v : Value} (hn : narrow (tyX4 10) v = v) (hfit : fits (tyX4 10) v = true) (hl : 10 < fs.length) (hdg : decode cc pc = .ok (.putfield 45, 3)) (kk : ∀ (H1 : Heap) (locs1 : List Loc), va_P D vwCl (ws.set q0 (a, .inr (5, fs.set 10 v))) H1 → va_D A (ws.set q0 (a, .inr (5, fs.set 10 v))) → va_S A H0 H1 locs1 → W p l e R s m args below meth c H1 locs1 cells slots Q (F0 m (pc + 3) ls rest)) : W p l e R s m args below meth c H locs cells slots Q (F0 m pc ls (v :: .ref a :: rest)) := va_put (C := RX4) (T := TX4) (N := 11) (ci := 5) hx hb hts inX4 tyX4 tkX4 nmX4 hown hK hP hD hS0 q0 he rfl 10 (by decide) (hts _ t266) (fun _ h => h) rfl (tkX4 10 (by decide)) hn hfit hl hdg kk
theorem dX4_clear_5 : decode cX4_clear 5 = .ok (.iconst 0, 1) := by decide +kernel
theorem dX4_clear_6 : decode cX4_clear 6 = .ok (.istore_n 1, 1) := by decide +kernel
theorem dX4_clear_7 : decode cX4_clear 7 = .ok (.iload_n 1, 1) := by decide +kernel
theorem dX4_clear_8 : decode cX4_clear 8 = .ok (.bipush 7, 2) := by decide +kernel
theorem dX4_clear_10 : decode cX4_clear 10 = .ok (.if_icmp .ge 37, 3) := by decide +kernel
theorem dX4_clear_47 : decode cX4_clear 47 = .ok (.iconst 0, 1) := by decide +kernel
theorem dX4_clear_48 : decode cX4_clear 48 = .ok (.istore_n 1, 1) := by decide +kernel
theorem dX4_clear_49 : decode cX4_clear 49 = .ok (.iload_n 1, 1) := by decide +kernel
theorem dX4_clear_50 : decode cX4_clear 50 = .ok (.bipush 70, 2) := by decide +kernel
theorem dX4_clear_52 : decode cX4_clear 52 = .ok (.if_icmp .ge 16, 3) := by decide +kernel
theorem dX4_clear_68 : decode cX4_clear 68 = .ok (.iconst 0, 1) := by decide +kernel
theorem dX4_clear_69 : decode cX4_clear 69 = .ok (.istore_n 1, 1) := by decide +kernel
theorem dX4_clear_70 : decode cX4_clear 70 = .ok (.iload_n 1, 1) := by decide +kernel
theorem dX4_clear_71 : decode cX4_clear 71 = .ok (.bipush 49, 2) := by decide +kernel
theorem dX4_clear_73 : decode cX4_clear 73 = .ok (.if_icmp .ge 16, 3) := by decide +kernel
theorem dX4_clear_89 : decode cX4_clear 89 = .ok (.return_, 1) := by decide +kernel
theorem dX4_clear_76 : decode cX4_clear 76 = .ok (.aload_n 0, 1) := by decide +kernel
theorem dX4_clear_77 : decode cX4_clear 77 = .ok (.getfield 18, 3) := by decide +kernel
theorem t239 : Cond.fieldLink RX4 18 "LikenessPound$Life" "owed" "[I" ∈ GW := gw_mem 353 (by decide +kernel) (by decide +kernel)
theorem gf_X4_18 {p : Program} {l : Launch} {e : Env} {R : Room} {s : State} {m : MethodId} {args : Array Value} {below : List Frame} {meth : Method} {c : Code} {H : Heap} {locs : List Loc} {cells slots : Nat} {Q : State → Prop} {cc : ByteArray} {pc : Nat} {ls : Array Slot} {rest : List Value} {D : va_G} {a : Nat} {tys : List (ClassId × FieldType)} {ws : va_W} (hx : p.tables.exec = Jvm.exec) (hb : c.code = cc) (hts : ∀ w ∈ GW, w.before args s = true) (hown : s.vm.findClass RX4 = some m.cls) (hK : va_K D vwCl tys s) (hP : va_P D vwCl ws H) (q0 : Nat) {fs : List Value} (he : ws[q0]? = some (a, .inr (5, fs))) {v : Value} (hv : fs[2]? = some v) (hdg : decode cc pc = .ok (.getfield 18, 3)) (kk : W p l e R s m args below meth c H locs cells slots Q (F0 m (pc + 3) ls (v :: rest))) : W p l e R s m args below meth c H locs cells slots Q (F0 m pc ls (.ref a :: rest)) := va_get (C := RX4) (T := TX4) (N := 11) (ci := 5) hx hb hts inX4 hown hK hP q0 he rfl 2 (by decide) (hts _ t239) (fun _ h => h) hv hdg kk
theorem dX4_clear_80 : decode cX4_clear 80 = .ok (.iload_n 1, 1) := by decide +kernel
theorem dX4_clear_81 : decode cX4_clear 81 = .ok (.iconst 0, 1) := by decide +kernel
theorem dX4_clear_82 : decode cX4_clear 82 = .ok (.iastore, 1) := by decide +kernel
theorem dX4_clear_83 : decode cX4_clear 83 = .ok (.iinc 1 1, 3) := by decide +kernel
theorem dX4_clear_86 : decode cX4_clear 86 = .ok (.goto (-16), 3) := by decide +kernel
theorem dX4_clear_55 : decode cX4_clear 55 = .ok (.aload_n 0, 1) := by decide +kernel
theorem dX4_clear_56 : decode cX4_clear 56 = .ok (.getfield 15, 3) := by decide +kernel
theorem t233 : Cond.fieldLink RX4 15 "LikenessPound$Life" "did" "[I" ∈ GW := gw_mem 347 (by decide +kernel) (by decide +kernel)
theorem gf_X4_15 {p : Program} {l : Launch} {e : Env} {R : Room} {s : State} {m : MethodId} {args : Array Value} {below : List Frame} {meth : Method} {c : Code} {H : Heap} {locs : List Loc} {cells slots : Nat} {Q : State → Prop} {cc : ByteArray} {pc : Nat} {ls : Array Slot} {rest : List Value} {D : va_G} {a : Nat} {tys : List (ClassId × FieldType)} {ws : va_W} (hx : p.tables.exec = Jvm.exec) (hb : c.code = cc) (hts : ∀ w ∈ GW, w.before args s = true) (hown : s.vm.findClass RX4 = some m.cls) (hK : va_K D vwCl tys s) (hP : va_P D vwCl ws H) (q0 : Nat) {fs : List Value} (he : ws[q0]? = some (a, .inr (5, fs))) {v : Value} (hv : fs[1]? = some v) (hdg : decode cc pc = .ok (.getfield 15, 3)) (kk : W p l e R s m args below meth c H locs cells slots Q (F0 m (pc + 3) ls (v :: rest))) : W p l e R s m args below meth c H locs cells slots Q (F0 m pc ls (.ref a :: rest)) := va_get (C := RX4) (T := TX4) (N := 11) (ci := 5) hx hb hts inX4 hown hK hP q0 he rfl 1 (by decide) (hts _ t233) (fun _ h => h) hv hdg kk
theorem dX4_clear_59 : decode cX4_clear 59 = .ok (.iload_n 1, 1) := by decide +kernel
theorem dX4_clear_60 : decode cX4_clear 60 = .ok (.iconst 0, 1) := by decide +kernel
theorem dX4_clear_61 : decode cX4_clear 61 = .ok (.iastore, 1) := by decide +kernel
theorem dX4_clear_62 : decode cX4_clear 62 = .ok (.iinc 1 1, 3) := by decide +kernel
theorem dX4_clear_65 : decode cX4_clear 65 = .ok (.goto (-16), 3) := by decide +kernel
theorem dX4_clear_13 : decode cX4_clear 13 = .ok (.aload_n 0, 1) := by decide +kernel
theorem dX4_clear_14 : decode cX4_clear 14 = .ok (.getfield 9, 3) := by decide +kernel
theorem t228 : Cond.fieldLink RX4 9 "LikenessPound$Life" "age" "[I" ∈ GW := gw_mem 342 (by decide +kernel) (by decide +kernel)
theorem gf_X4_9 {p : Program} {l : Launch} {e : Env} {R : Room} {s : State} {m : MethodId} {args : Array Value} {below : List Frame} {meth : Method} {c : Code} {H : Heap} {locs : List Loc} {cells slots : Nat} {Q : State → Prop} {cc : ByteArray} {pc : Nat} {ls : Array Slot} {rest : List Value} {D : va_G} {a : Nat} {tys : List (ClassId × FieldType)} {ws : va_W} (hx : p.tables.exec = Jvm.exec) (hb : c.code = cc) (hts : ∀ w ∈ GW, w.before args s = true) (hown : s.vm.findClass RX4 = some m.cls) (hK : va_K D vwCl tys s) (hP : va_P D vwCl ws H) (q0 : Nat) {fs : List Value} (he : ws[q0]? = some (a, .inr (5, fs))) {v : Value} (hv : fs[0]? = some v) (hdg : decode cc pc = .ok (.getfield 9, 3)) (kk : W p l e R s m args below meth c H locs cells slots Q (F0 m (pc + 3) ls (v :: rest))) : W p l e R s m args below meth c H locs cells slots Q (F0 m pc ls (.ref a :: rest)) := va_get (C := RX4) (T := TX4) (N := 11) (ci := 5) hx hb hts inX4 hown hK hP q0 he rfl 0 (by decide) (hts _ t228) (fun _ h => h) hv hdg kk
theorem dX4_clear_17 : decode cX4_clear 17 = .ok (.iload_n 1, 1) := by decide +kernel
theorem dX4_clear_18 : decode cX4_clear 18 = .ok (.iconst 0, 1) := by decide +kernel
theorem dX4_clear_19 : decode cX4_clear 19 = .ok (.iastore, 1) := by decide +kernel
theorem dX4_clear_20 : decode cX4_clear 20 = .ok (.aload_n 0, 1) := by decide +kernel
theorem dX4_clear_21 : decode cX4_clear 21 = .ok (.getfield 21, 3) := by decide +kernel
theorem t242 : Cond.fieldLink RX4 21 "LikenessPound$Life" "lentTo" "[I" ∈ GW := gw_mem 356 (by decide +kernel) (by decide +kernel)
theorem gf_X4_21 {p : Program} {l : Launch} {e : Env} {R : Room} {s : State} {m : MethodId} {args : Array Value} {below : List Frame} {meth : Method} {c : Code} {H : Heap} {locs : List Loc} {cells slots : Nat} {Q : State → Prop} {cc : ByteArray} {pc : Nat} {ls : Array Slot} {rest : List Value} {D : va_G} {a : Nat} {tys : List (ClassId × FieldType)} {ws : va_W} (hx : p.tables.exec = Jvm.exec) (hb : c.code = cc) (hts : ∀ w ∈ GW, w.before args s = true) (hown : s.vm.findClass RX4 = some m.cls) (hK : va_K D vwCl tys s) (hP : va_P D vwCl ws H) (q0 : Nat) {fs : List Value} (he : ws[q0]? = some (a, .inr (5, fs))) {v : Value} (hv : fs[3]? = some v) (hdg : decode cc pc = .ok (.getfield 21, 3)) (kk : W p l e R s m args below meth c H locs cells slots Q (F0 m (pc + 3) ls (v :: rest))) : W p l e R s m args below meth c H locs cells slots Q (F0 m pc ls (.ref a :: rest)) := va_get (C := RX4) (T := TX4) (N := 11) (ci := 5) hx hb hts inX4 hown hK hP q0 he rfl 3 (by decide) (hts _ t242) (fun _ h => h) hv hdg kk
theorem dX4_clear_24 : decode cX4_clear 24 = .ok (.iload_n 1, 1) := by decide +kernel
theorem dX4_clear_25 : decode cX4_clear 25 = .ok (.iconst (-1), 1) := by decide +kernel
theorem dX4_clear_26 : decode cX4_clear 26 = .ok (.iastore, 1) := by decide +kernel
theorem dX4_clear_27 : decode cX4_clear 27 = .ok (.aload_n 0, 1) := by decide +kernel
theorem dX4_clear_28 : decode cX4_clear 28 = .ok (.getfield 24, 3) := by decide +kernel
theorem t247 : Cond.fieldLink RX4 24 "LikenessPound$Life" "lentDeed" "[I" ∈ GW := gw_mem 361 (by decide +kernel) (by decide +kernel)
theorem gf_X4_24 {p : Program} {l : Launch} {e : Env} {R : Room} {s : State} {m : MethodId} {args : Array Value} {below : List Frame} {meth : Method} {c : Code} {H : Heap} {locs : List Loc} {cells slots : Nat} {Q : State → Prop} {cc : ByteArray} {pc : Nat} {ls : Array Slot} {rest : List Value} {D : va_G} {a : Nat} {tys : List (ClassId × FieldType)} {ws : va_W} (hx : p.tables.exec = Jvm.exec) (hb : c.code = cc) (hts : ∀ w ∈ GW, w.before args s = true) (hown : s.vm.findClass RX4 = some m.cls) (hK : va_K D vwCl tys s) (hP : va_P D vwCl ws H) (q0 : Nat) {fs : List Value} (he : ws[q0]? = some (a, .inr (5, fs))) {v : Value} (hv : fs[4]? = some v) (hdg : decode cc pc = .ok (.getfield 24, 3)) (kk : W p l e R s m args below meth c H locs cells slots Q (F0 m (pc + 3) ls (v :: rest))) : W p l e R s m args below meth c H locs cells slots Q (F0 m pc ls (.ref a :: rest)) := va_get (C := RX4) (T := TX4) (N := 11) (ci := 5) hx hb hts inX4 hown hK hP q0 he rfl 4 (by decide) (hts _ t247) (fun _ h => h) hv hdg kk
theorem dX4_clear_31 : decode cX4_clear 31 = .ok (.iload_n 1, 1) := by decide +kernel
theorem dX4_clear_32 : decode cX4_clear 32 = .ok (.iconst (-1), 1) := by decide +kernel
theorem dX4_clear_33 : decode cX4_clear 33 = .ok (.iastore, 1) := by decide +kernel
theorem dX4_clear_34 : decode cX4_clear 34 = .ok (.aload_n 0, 1) := by decide +kernel
theorem dX4_clear_35 : decode cX4_clear 35 = .ok (.getfield 27, 3) := by decide +kernel
theorem dX4_clear_38 : decode cX4_clear 38 = .ok (.iload_n 1, 1) := by decide +kernel
theorem dX4_clear_39 : decode cX4_clear 39 = .ok (.iconst 0, 1) := by decide +kernel
theorem dX4_clear_40 : decode cX4_clear 40 = .ok (.iastore, 1) := by decide +kernel
theorem dX4_clear_41 : decode cX4_clear 41 = .ok (.iinc 1 1, 3) := by decide +kernel
theorem dX4_clear_44 : decode cX4_clear 44 = .ok (.goto (-37), 3) := by decide +kernel
set_option maxHeartbeats 4000000 in
set_option maxRecDepth 100000 in
theorem c_Life_clear (l : Launch) (dC : Nat → ClassId) (dI : Nat → Nat → Nat) (cy : Nat → ClassId) (sz : Nat) (h0 : Nat) (a1 : Nat) (a2 : Nat) (a3 : Nat) (a4 : Nat) (a5 : Nat) (a6 : Nat) (a7 : Nat) (a8 : Nat) (a9 : Nat) (a10 : Nat) (yr : Int32) (f1 : Nat → Int32) (f2 : Nat → Int32) (f3 : Nat → Int32) (f4 : Nat → Int32) (f5 : Nat → Int32) (f6 : Nat → Int32)  : Met l yX4_clear (wl yX4_clear cX4_clear 2 none) ({ frames := 0, cells := 0, slots := 0, locals := 0 }) (Pw (dC, dI) vwCl cy [(h0, .inr (5, [.ref a1, .ref a2, .ref a3, .ref a4, .ref a5, .ref a6, .ref a7, .ref a8, .ref a9, .ref a10, .int yr])), (a1, .inl (cy 0, 7, .inl f1)), (a2, .inl (cy 0, 70, .inl f2)), (a3, .inl (cy 0, 49, .inl f3)), (a4, .inl (cy 0, 7, .inl f4)), (a5, .inl (cy 0, 7, .inl f5)), (a6, .inl (cy 0, 7, .inl f6))] sz [.ref h0] nE) (Qv (dC, dI) vwCl (fun (u : (Nat → Int32) × (Nat → Int32) × (Nat → Int32) × (Nat → Int32) × (Nat → Int32) × (Nat → Int32)) => ∀ j : Nat, j < 7 → u.2.2.2.2.2 j = 0) (fun (u : (Nat → Int32) × (Nat → Int32) × (Nat → Int32) × (Nat → Int32) × (Nat → Int32) × (Nat → Int32)) => [(h0, .inr (5, [.ref a1, .ref a2, .ref a3, .ref a4, .ref a5, .ref a6, .ref a7, .ref a8, .ref a9, .ref a10, .int 0])), (a1, .inl (cy 0, 7, .inl u.1)), (a2, .inl (cy 0, 70, .inl u.2.1)), (a3, .inl (cy 0, 49, .inl u.2.2.1)), (a4, .inl (cy 0, 7, .inl u.2.2.2.1)), (a5, .inl (cy 0, 7, .inl u.2.2.2.2.1)), (a6, .inl (cy 0, 7, .inl u.2.2.2.2.2))]) (va_A [(h0, .inr (5, [.ref a1, .ref a2, .ref a3, .ref a4, .ref a5, .ref a6, .ref a7, .ref a8, .ref a9, .ref a10, .int yr])), (a1, .inl (cy 0, 7, .inl f1)), (a2, .inl (cy 0, 70, .inl f2)), (a3, .inl (cy 0, 49, .inl f3)), (a4, .inl (cy 0, 7, .inl f4)), (a5, .inl (cy 0, 7, .inl f5)), (a6, .inl (cy 0, 7, .inl f6))] sz)) 0 0 (va_A [(h0, .inr (5, [.ref a1, .ref a2, .ref a3, .ref a4, .ref a5, .ref a6, .ref a7, .ref a8, .ref a9, .ref a10, .int yr])), (a1, .inl (cy 0, 7, .inl f1)), (a2, .inl (cy 0, 70, .inl f2)), (a3, .inl (cy 0, 49, .inl f3)), (a4, .inl (cy 0, 7, .inl f4)), (a5, .inl (cy 0, 7, .inl f5)), (a6, .inl (cy 0, 7, .inl f6))] sz) := by
  refine mw (Qc := Qv (dC, dI) vwCl (fun (u : (Nat → Int32) × (Nat → Int32) × (Nat → Int32) × (Nat → Int32) × (Nat → Int32) × (Nat → Int32)) => ∀ j : Nat, j < 7 → u.2.2.2.2.2 j = 0) (fun (u : (Nat → Int32) × (Nat → Int32) × (Nat → Int32) × (Nat → Int32) × (Nat → Int32) × (Nat → Int32)) => [(h0, .inr (5, [.ref a1, .ref a2, .ref a3, .ref a4, .ref a5, .ref a6, .ref a7, .ref a8, .ref a9, .ref a10, .int 0])), (a1, .inl (cy 0, 7, .inl u.1)), (a2, .inl (cy 0, 70, .inl u.2.1)), (a3, .inl (cy 0, 49, .inl u.2.2.1)), (a4, .inl (cy 0, 7, .inl u.2.2.2.1)), (a5, .inl (cy 0, 7, .inl u.2.2.2.2.1)), (a6, .inl (cy 0, 7, .inl u.2.2.2.2.2))])) RX4 rfl (by decide +kernel) (Nat.le_of_ble_eq_true rfl) ?_
  intro p e s m below meth c A hx hb hr hlocks av9 hav hts hown hnm hml hK hP hD hA hS hE hAe Q9 hQ9 ls hl
  have hl : lv_has ls 2 [(0, .ref h0)] := hl
  refine lv_aload_n hx hb dX4_clear_0 rfl (lv_at hl 0 rfl) ?_
  refine lv_iconst (v := 0) hx hb dX4_clear_1 (by decide) ?_
  refine pf_X4_45 hx hb hts hown hK hP hD hS 0 rfl rfl rfl (Nat.le_of_ble_eq_true rfl) dX4_clear_2 (fun H locs hP hD hS => ?_)
  have hP : va_P (dC, dI) vwCl [(h0, .inr (5, [.ref a1, .ref a2, .ref a3, .ref a4, .ref a5, .ref a6, .ref a7, .ref a8, .ref a9, .ref a10, .int 0])), (a1, .inl (cy 0, 7, .inl f1)), (a2, .inl (cy 0, 70, .inl f2)), (a3, .inl (cy 0, 49, .inl f3)), (a4, .inl (cy 0, 7, .inl f4)), (a5, .inl (cy 0, 7, .inl f5)), (a6, .inl (cy 0, 7, .inl f6))] H := hP
  have hD : va_D A [(h0, .inr (5, [.ref a1, .ref a2, .ref a3, .ref a4, .ref a5, .ref a6, .ref a7, .ref a8, .ref a9, .ref a10, .int 0])), (a1, .inl (cy 0, 7, .inl f1)), (a2, .inl (cy 0, 70, .inl f2)), (a3, .inl (cy 0, 49, .inl f3)), (a4, .inl (cy 0, 7, .inl f4)), (a5, .inl (cy 0, 7, .inl f5)), (a6, .inl (cy 0, 7, .inl f6))] := hD
  refine lv_iconst (v := 0) hx hb dX4_clear_5 (by decide) ?_
  refine lv_istore_n (lv' := [(1, .int 0), (0, .ref h0)]) hx hb dX4_clear_6 rfl hl (by decide) rfl (fun ls hl => ?_)
  have loop1 : ∀ (n1_ i1 : Nat) (g_2 : Nat → Int32) (g_3 : Nat → Int32) (g_4 : Nat → Int32) (g_5 : Nat → Int32) (hs : ∀ j : Nat, j < i1 → g_5 j = 0), i1 + n1_ = 7 → ∀ (H : Heap) (locs : List Loc), va_P (dC, dI) vwCl [(h0, .inr (5, [.ref a1, .ref a2, .ref a3, .ref a4, .ref a5, .ref a6, .ref a7, .ref a8, .ref a9, .ref a10, .int 0])), (a1, .inl (cy 0, 7, .inl g_2)), (a2, .inl (cy 0, 70, .inl f2)), (a3, .inl (cy 0, 49, .inl f3)), (a4, .inl (cy 0, 7, .inl g_3)), (a5, .inl (cy 0, 7, .inl g_4)), (a6, .inl (cy 0, 7, .inl g_5))] H → va_D A [(h0, .inr (5, [.ref a1, .ref a2, .ref a3, .ref a4, .ref a5, .ref a6, .ref a7, .ref a8, .ref a9, .ref a10, .int 0])), (a1, .inl (cy 0, 7, .inl g_2)), (a2, .inl (cy 0, 70, .inl f2)), (a3, .inl (cy 0, 49, .inl f3)), (a4, .inl (cy 0, 7, .inl g_3)), (a5, .inl (cy 0, 7, .inl g_4)), (a6, .inl (cy 0, 7, .inl g_5))] → va_S A s.heap H locs → ∀ ls : Array Slot, lv_has ls 2 [(0, .ref h0), (1, .int (nI i1))] → W p l e ({ frames := 0, cells := 0, slots := 0, locals := 0 }) s m av9 below meth c H locs 0 0 Q9 (F0 m 7 ls []) := by
    intro n1_
    induction n1_ with
    | zero =>
      intro i1 g_2 g_3 g_4 g_5 hs hn1 H locs hP hD hS ls hl
      obtain rfl : i1 = 7 := by omega
      have hl : lv_has ls 2 [(0, .ref h0), (1, .int 7)] := hl
      refine lv_iload_n hx hb dX4_clear_7 rfl (lv_at hl 1 rfl) ?_
      refine lv_bipush (v := 7) hx hb dX4_clear_8 (by decide) ?_
      refine lv_icmp_ge (tgt := 47) hx hb dX4_clear_10 (by decide) (fun _ => ?_) (fun c9 => absurd (by decide) c9)
      refine lv_iconst (v := 0) hx hb dX4_clear_47 (by decide) ?_
      refine lv_istore_n (lv' := [(1, .int 0), (0, .ref h0)]) hx hb dX4_clear_48 rfl hl (by decide) rfl (fun ls hl => ?_)
      have loop6 : ∀ (n6_ i6 : Nat) (g_7 : Nat → Int32) , i6 + n6_ = 70 → ∀ (H : Heap) (locs : List Loc), va_P (dC, dI) vwCl [(h0, .inr (5, [.ref a1, .ref a2, .ref a3, .ref a4, .ref a5, .ref a6, .ref a7, .ref a8, .ref a9, .ref a10, .int 0])), (a1, .inl (cy 0, 7, .inl g_2)), (a2, .inl (cy 0, 70, .inl g_7)), (a3, .inl (cy 0, 49, .inl f3)), (a4, .inl (cy 0, 7, .inl g_3)), (a5, .inl (cy 0, 7, .inl g_4)), (a6, .inl (cy 0, 7, .inl g_5))] H → va_D A [(h0, .inr (5, [.ref a1, .ref a2, .ref a3, .ref a4, .ref a5, .ref a6, .ref a7, .ref a8, .ref a9, .ref a10, .int 0])), (a1, .inl (cy 0, 7, .inl g_2)), (a2, .inl (cy 0, 70, .inl g_7)), (a3, .inl (cy 0, 49, .inl f3)), (a4, .inl (cy 0, 7, .inl g_3)), (a5, .inl (cy 0, 7, .inl g_4)), (a6, .inl (cy 0, 7, .inl g_5))] → va_S A s.heap H locs → ∀ ls : Array Slot, lv_has ls 2 [(0, .ref h0), (1, .int (nI i6))] → W p l e ({ frames := 0, cells := 0, slots := 0, locals := 0 }) s m av9 below meth c H locs 0 0 Q9 (F0 m 49 ls []) := by
        intro n6_
        induction n6_ with
        | zero =>
          intro i6 g_7  hn6 H locs hP hD hS ls hl
          obtain rfl : i6 = 70 := by omega
          have hl : lv_has ls 2 [(0, .ref h0), (1, .int 70)] := hl
          refine lv_iload_n hx hb dX4_clear_49 rfl (lv_at hl 1 rfl) ?_
          refine lv_bipush (v := 70) hx hb dX4_clear_50 (by decide) ?_
          refine lv_icmp_ge (tgt := 68) hx hb dX4_clear_52 (by decide) (fun _ => ?_) (fun c9 => absurd (by decide) c9)
          refine lv_iconst (v := 0) hx hb dX4_clear_68 (by decide) ?_
          refine lv_istore_n (lv' := [(1, .int 0), (0, .ref h0)]) hx hb dX4_clear_69 rfl hl (by decide) rfl (fun ls hl => ?_)
          have loop8 : ∀ (n8_ i8 : Nat) (g_9 : Nat → Int32) , i8 + n8_ = 49 → ∀ (H : Heap) (locs : List Loc), va_P (dC, dI) vwCl [(h0, .inr (5, [.ref a1, .ref a2, .ref a3, .ref a4, .ref a5, .ref a6, .ref a7, .ref a8, .ref a9, .ref a10, .int 0])), (a1, .inl (cy 0, 7, .inl g_2)), (a2, .inl (cy 0, 70, .inl g_7)), (a3, .inl (cy 0, 49, .inl g_9)), (a4, .inl (cy 0, 7, .inl g_3)), (a5, .inl (cy 0, 7, .inl g_4)), (a6, .inl (cy 0, 7, .inl g_5))] H → va_D A [(h0, .inr (5, [.ref a1, .ref a2, .ref a3, .ref a4, .ref a5, .ref a6, .ref a7, .ref a8, .ref a9, .ref a10, .int 0])), (a1, .inl (cy 0, 7, .inl g_2)), (a2, .inl (cy 0, 70, .inl g_7)), (a3, .inl (cy 0, 49, .inl g_9)), (a4, .inl (cy 0, 7, .inl g_3)), (a5, .inl (cy 0, 7, .inl g_4)), (a6, .inl (cy 0, 7, .inl g_5))] → va_S A s.heap H locs → ∀ ls : Array Slot, lv_has ls 2 [(0, .ref h0), (1, .int (nI i8))] → W p l e ({ frames := 0, cells := 0, slots := 0, locals := 0 }) s m av9 below meth c H locs 0 0 Q9 (F0 m 70 ls []) := by
            intro n8_
            induction n8_ with
            | zero =>
              intro i8 g_9  hn8 H locs hP hD hS ls hl
              obtain rfl : i8 = 49 := by omega
              have hl : lv_has ls 2 [(0, .ref h0), (1, .int 49)] := hl
              refine lv_iload_n hx hb dX4_clear_70 rfl (lv_at hl 1 rfl) ?_
              refine lv_bipush (v := 49) hx hb dX4_clear_71 (by decide) ?_
              refine lv_icmp_ge (tgt := 89) hx hb dX4_clear_73 (by decide) (fun _ => ?_) (fun c9 => absurd (by decide) c9)
              rw [hQ9]
              exact re_v (g_2, g_7, g_9, g_3, g_4, g_5) hx hb hr hlocks hs (hP.sub [0, 1, 2, 3, 4, 5, 6] rfl) (hD.sub [0, 1, 2, 3, 4, 5, 6] rfl rfl) hS dX4_clear_89
            | succ n8_ ih8 =>
              intro i8 g_9  hn8 H locs hP hD hS ls hl
              refine lv_iload_n hx hb dX4_clear_70 rfl (lv_at hl 1 rfl) ?_
              refine lv_bipush (v := 49) hx hb dX4_clear_71 (by decide) ?_
              refine lv_icmp_ge (tgt := 89) hx hb dX4_clear_73 (by decide) (fun c9 => absurd c9 (nI_ge (a := i8) (b := 49) (by omega) (by decide))) (fun _ => ?_)
              refine lv_aload_n hx hb dX4_clear_76 rfl (lv_at hl 0 rfl) ?_
              refine gf_X4_18 hx hb hts hown hK hP 0 rfl rfl dX4_clear_77 ?_
              refine lv_iload_n hx hb dX4_clear_80 rfl (lv_at hl 1 rfl) ?_
              refine lv_iconst (v := 0) hx hb dX4_clear_81 (by decide) ?_
              refine va_iast hx hb hK hP hD hS 3 0 rfl rfl (vp_in_nI (n := i8) (N := 49) (by omega) (by omega)) dX4_clear_82 (fun H locs hP hD hS => ?_)
              obtain ⟨f_10, ef_10⟩ : ∃ z : Nat → Int32, z = upd g_9 (Int32.toNatClampNeg (nI i8)) 0 := ⟨_, rfl⟩
              have hP : va_P (dC, dI) vwCl [(h0, .inr (5, [.ref a1, .ref a2, .ref a3, .ref a4, .ref a5, .ref a6, .ref a7, .ref a8, .ref a9, .ref a10, .int 0])), (a1, .inl (cy 0, 7, .inl g_2)), (a2, .inl (cy 0, 70, .inl g_7)), (a3, .inl (cy 0, 49, .inl f_10)), (a4, .inl (cy 0, 7, .inl g_3)), (a5, .inl (cy 0, 7, .inl g_4)), (a6, .inl (cy 0, 7, .inl g_5))] H := by rw [ef_10]; exact hP
              have hD : va_D A [(h0, .inr (5, [.ref a1, .ref a2, .ref a3, .ref a4, .ref a5, .ref a6, .ref a7, .ref a8, .ref a9, .ref a10, .int 0])), (a1, .inl (cy 0, 7, .inl g_2)), (a2, .inl (cy 0, 70, .inl g_7)), (a3, .inl (cy 0, 49, .inl f_10)), (a4, .inl (cy 0, 7, .inl g_3)), (a5, .inl (cy 0, 7, .inl g_4)), (a6, .inl (cy 0, 7, .inl g_5))] := by rw [ef_10]; exact hD
              rw [(nI_clamp (n := i8) (by omega))] at ef_10
              refine lv_iinc (v := nI (i8 + 1)) (lv' := [(1, .int (nI (i8 + 1))), (0, .ref h0)]) hx hb dX4_clear_83 hl (k := 1) rfl (nI_add i8 1) (by decide) rfl (fun ls hl => ?_)
              refine lv_goto (tgt := 70) hx hb dX4_clear_86 (by decide) ?_
              exact ih8 (i8 + 1) f_10  (by omega) _ _ (hP.sub [0, 1, 2, 3, 4, 5, 6] rfl) (hD.sub [0, 1, 2, 3, 4, 5, 6] rfl rfl) hS ls (lv_sub hl [1, 0] rfl)
          exact loop8 49 0 f3  (by omega) _ _ hP hD hS ls (lv_sub hl [1, 0] rfl)
        | succ n6_ ih6 =>
          intro i6 g_7  hn6 H locs hP hD hS ls hl
          refine lv_iload_n hx hb dX4_clear_49 rfl (lv_at hl 1 rfl) ?_
          refine lv_bipush (v := 70) hx hb dX4_clear_50 (by decide) ?_
          refine lv_icmp_ge (tgt := 68) hx hb dX4_clear_52 (by decide) (fun c9 => absurd c9 (nI_ge (a := i6) (b := 70) (by omega) (by decide))) (fun _ => ?_)
          refine lv_aload_n hx hb dX4_clear_55 rfl (lv_at hl 0 rfl) ?_
          refine gf_X4_15 hx hb hts hown hK hP 0 rfl rfl dX4_clear_56 ?_
          refine lv_iload_n hx hb dX4_clear_59 rfl (lv_at hl 1 rfl) ?_
          refine lv_iconst (v := 0) hx hb dX4_clear_60 (by decide) ?_
          refine va_iast hx hb hK hP hD hS 2 0 rfl rfl (vp_in_nI (n := i6) (N := 70) (by omega) (by omega)) dX4_clear_61 (fun H locs hP hD hS => ?_)
          obtain ⟨f_11, ef_11⟩ : ∃ z : Nat → Int32, z = upd g_7 (Int32.toNatClampNeg (nI i6)) 0 := ⟨_, rfl⟩
          have hP : va_P (dC, dI) vwCl [(h0, .inr (5, [.ref a1, .ref a2, .ref a3, .ref a4, .ref a5, .ref a6, .ref a7, .ref a8, .ref a9, .ref a10, .int 0])), (a1, .inl (cy 0, 7, .inl g_2)), (a2, .inl (cy 0, 70, .inl f_11)), (a3, .inl (cy 0, 49, .inl f3)), (a4, .inl (cy 0, 7, .inl g_3)), (a5, .inl (cy 0, 7, .inl g_4)), (a6, .inl (cy 0, 7, .inl g_5))] H := by rw [ef_11]; exact hP
          have hD : va_D A [(h0, .inr (5, [.ref a1, .ref a2, .ref a3, .ref a4, .ref a5, .ref a6, .ref a7, .ref a8, .ref a9, .ref a10, .int 0])), (a1, .inl (cy 0, 7, .inl g_2)), (a2, .inl (cy 0, 70, .inl f_11)), (a3, .inl (cy 0, 49, .inl f3)), (a4, .inl (cy 0, 7, .inl g_3)), (a5, .inl (cy 0, 7, .inl g_4)), (a6, .inl (cy 0, 7, .inl g_5))] := by rw [ef_11]; exact hD
          rw [(nI_clamp (n := i6) (by omega))] at ef_11
          refine lv_iinc (v := nI (i6 + 1)) (lv' := [(1, .int (nI (i6 + 1))), (0, .ref h0)]) hx hb dX4_clear_62 hl (k := 1) rfl (nI_add i6 1) (by decide) rfl (fun ls hl => ?_)
          refine lv_goto (tgt := 49) hx hb dX4_clear_65 (by decide) ?_
          exact ih6 (i6 + 1) f_11  (by omega) _ _ (hP.sub [0, 1, 2, 3, 4, 5, 6] rfl) (hD.sub [0, 1, 2, 3, 4, 5, 6] rfl rfl) hS ls (lv_sub hl [1, 0] rfl)
      exact loop6 70 0 f2  (by omega) _ _ hP hD hS ls (lv_sub hl [1, 0] rfl)
    | succ n1_ ih1 =>
      intro i1 g_2 g_3 g_4 g_5 hs hn1 H locs hP hD hS ls hl
      refine lv_iload_n hx hb dX4_clear_7 rfl (lv_at hl 1 rfl) ?_
      refine lv_bipush (v := 7) hx hb dX4_clear_8 (by decide) ?_
      refine lv_icmp_ge (tgt := 47) hx hb dX4_clear_10 (by decide) (fun c9 => absurd c9 (nI_ge (a := i1) (b := 7) (by omega) (by decide))) (fun _ => ?_)
      refine lv_aload_n hx hb dX4_clear_13 rfl (lv_at hl 0 rfl) ?_
      refine gf_X4_9 hx hb hts hown hK hP 0 rfl rfl dX4_clear_14 ?_
      refine lv_iload_n hx hb dX4_clear_17 rfl (lv_at hl 1 rfl) ?_
      refine lv_iconst (v := 0) hx hb dX4_clear_18 (by decide) ?_
      refine va_iast hx hb hK hP hD hS 1 0 rfl rfl (vp_in_nI (n := i1) (N := 7) (by omega) (by omega)) dX4_clear_19 (fun H locs hP hD hS => ?_)
      obtain ⟨f_12, ef_12⟩ : ∃ z : Nat → Int32, z = upd g_2 (Int32.toNatClampNeg (nI i1)) 0 := ⟨_, rfl⟩
      have hP : va_P (dC, dI) vwCl [(h0, .inr (5, [.ref a1, .ref a2, .ref a3, .ref a4, .ref a5, .ref a6, .ref a7, .ref a8, .ref a9, .ref a10, .int 0])), (a1, .inl (cy 0, 7, .inl f_12)), (a2, .inl (cy 0, 70, .inl f2)), (a3, .inl (cy 0, 49, .inl f3)), (a4, .inl (cy 0, 7, .inl g_3)), (a5, .inl (cy 0, 7, .inl g_4)), (a6, .inl (cy 0, 7, .inl g_5))] H := by rw [ef_12]; exact hP
      have hD : va_D A [(h0, .inr (5, [.ref a1, .ref a2, .ref a3, .ref a4, .ref a5, .ref a6, .ref a7, .ref a8, .ref a9, .ref a10, .int 0])), (a1, .inl (cy 0, 7, .inl f_12)), (a2, .inl (cy 0, 70, .inl f2)), (a3, .inl (cy 0, 49, .inl f3)), (a4, .inl (cy 0, 7, .inl g_3)), (a5, .inl (cy 0, 7, .inl g_4)), (a6, .inl (cy 0, 7, .inl g_5))] := by rw [ef_12]; exact hD
      rw [(nI_clamp (n := i1) (by omega))] at ef_12
      refine lv_aload_n hx hb dX4_clear_20 rfl (lv_at hl 0 rfl) ?_
      refine gf_X4_21 hx hb hts hown hK hP 0 rfl rfl dX4_clear_21 ?_
      refine lv_iload_n hx hb dX4_clear_24 rfl (lv_at hl 1 rfl) ?_
      refine lv_iconst (v := (-1)) hx hb dX4_clear_25 (by decide) ?_
      refine va_iast hx hb hK hP hD hS 4 0 rfl rfl (vp_in_nI (n := i1) (N := 7) (by omega) (by omega)) dX4_clear_26 (fun H locs hP hD hS => ?_)
      obtain ⟨f_13, ef_13⟩ : ∃ z : Nat → Int32, z = upd g_3 (Int32.toNatClampNeg (nI i1)) (-1) := ⟨_, rfl⟩
      have hP : va_P (dC, dI) vwCl [(h0, .inr (5, [.ref a1, .ref a2, .ref a3, .ref a4, .ref a5, .ref a6, .ref a7, .ref a8, .ref a9, .ref a10, .int 0])), (a1, .inl (cy 0, 7, .inl f_12)), (a2, .inl (cy 0, 70, .inl f2)), (a3, .inl (cy 0, 49, .inl f3)), (a4, .inl (cy 0, 7, .inl f_13)), (a5, .inl (cy 0, 7, .inl g_4)), (a6, .inl (cy 0, 7, .inl g_5))] H := by rw [ef_13]; exact hP
      have hD : va_D A [(h0, .inr (5, [.ref a1, .ref a2, .ref a3, .ref a4, .ref a5, .ref a6, .ref a7, .ref a8, .ref a9, .ref a10, .int 0])), (a1, .inl (cy 0, 7, .inl f_12)), (a2, .inl (cy 0, 70, .inl f2)), (a3, .inl (cy 0, 49, .inl f3)), (a4, .inl (cy 0, 7, .inl f_13)), (a5, .inl (cy 0, 7, .inl g_4)), (a6, .inl (cy 0, 7, .inl g_5))] := by rw [ef_13]; exact hD
      rw [(nI_clamp (n := i1) (by omega))] at ef_13
      refine lv_aload_n hx hb dX4_clear_27 rfl (lv_at hl 0 rfl) ?_
      refine gf_X4_24 hx hb hts hown hK hP 0 rfl rfl dX4_clear_28 ?_
      refine lv_iload_n hx hb dX4_clear_31 rfl (lv_at hl 1 rfl) ?_
      refine lv_iconst (v := (-1)) hx hb dX4_clear_32 (by decide) ?_
      refine va_iast hx hb hK hP hD hS 5 0 rfl rfl (vp_in_nI (n := i1) (N := 7) (by omega) (by omega)) dX4_clear_33 (fun H locs hP hD hS => ?_)
      obtain ⟨f_14, ef_14⟩ : ∃ z : Nat → Int32, z = upd g_4 (Int32.toNatClampNeg (nI i1)) (-1) := ⟨_, rfl⟩
      have hP : va_P (dC, dI) vwCl [(h0, .inr (5, [.ref a1, .ref a2, .ref a3, .ref a4, .ref a5, .ref a6, .ref a7, .ref a8, .ref a9, .ref a10, .int 0])), (a1, .inl (cy 0, 7, .inl f_12)), (a2, .inl (cy 0, 70, .inl f2)), (a3, .inl (cy 0, 49, .inl f3)), (a4, .inl (cy 0, 7, .inl f_13)), (a5, .inl (cy 0, 7, .inl f_14)), (a6, .inl (cy 0, 7, .inl g_5))] H := by rw [ef_14]; exact hP
      have hD : va_D A [(h0, .inr (5, [.ref a1, .ref a2, .ref a3, .ref a4, .ref a5, .ref a6, .ref a7, .ref a8, .ref a9, .ref a10, .int 0])), (a1, .inl (cy 0, 7, .inl f_12)), (a2, .inl (cy 0, 70, .inl f2)), (a3, .inl (cy 0, 49, .inl f3)), (a4, .inl (cy 0, 7, .inl f_13)), (a5, .inl (cy 0, 7, .inl f_14)), (a6, .inl (cy 0, 7, .inl g_5))] := by rw [ef_14]; exact hD
      rw [(nI_clamp (n := i1) (by omega))] at ef_14
      refine lv_aload_n hx hb dX4_clear_34 rfl (lv_at hl 0 rfl) ?_
      refine gf_X4_27 hx hb hts hown hK hP 0 rfl rfl dX4_clear_35 ?_
      refine lv_iload_n hx hb dX4_clear_38 rfl (lv_at hl 1 rfl) ?_
      refine lv_iconst (v := 0) hx hb dX4_clear_39 (by decide) ?_
      refine va_iast hx hb hK hP hD hS 6 0 rfl rfl (vp_in_nI (n := i1) (N := 7) (by omega) (by omega)) dX4_clear_40 (fun H locs hP hD hS => ?_)
      obtain ⟨f_15, ef_15⟩ : ∃ z : Nat → Int32, z = upd g_5 (Int32.toNatClampNeg (nI i1)) 0 := ⟨_, rfl⟩
      have hP : va_P (dC, dI) vwCl [(h0, .inr (5, [.ref a1, .ref a2, .ref a3, .ref a4, .ref a5, .ref a6, .ref a7, .ref a8, .ref a9, .ref a10, .int 0])), (a1, .inl (cy 0, 7, .inl f_12)), (a2, .inl (cy 0, 70, .inl f2)), (a3, .inl (cy 0, 49, .inl f3)), (a4, .inl (cy 0, 7, .inl f_13)), (a5, .inl (cy 0, 7, .inl f_14)), (a6, .inl (cy 0, 7, .inl f_15))] H := by rw [ef_15]; exact hP
      have hD : va_D A [(h0, .inr (5, [.ref a1, .ref a2, .ref a3, .ref a4, .ref a5, .ref a6, .ref a7, .ref a8, .ref a9, .ref a10, .int 0])), (a1, .inl (cy 0, 7, .inl f_12)), (a2, .inl (cy 0, 70, .inl f2)), (a3, .inl (cy 0, 49, .inl f3)), (a4, .inl (cy 0, 7, .inl f_13)), (a5, .inl (cy 0, 7, .inl f_14)), (a6, .inl (cy 0, 7, .inl f_15))] := by rw [ef_15]; exact hD
      rw [(nI_clamp (n := i1) (by omega))] at ef_15
      refine lv_iinc (v := nI (i1 + 1)) (lv' := [(1, .int (nI (i1 + 1))), (0, .ref h0)]) hx hb dX4_clear_41 hl (k := 1) rfl (nI_add i1 1) (by decide) rfl (fun ls hl => ?_)
      refine lv_goto (tgt := 7) hx hb dX4_clear_44 (by decide) ?_
      exact ih1 (i1 + 1) f_12 f_13 f_14 f_15 (up0 ef_15 hs) (by omega) _ _ (hP.sub [0, 1, 2, 3, 4, 5, 6] rfl) (hD.sub [0, 1, 2, 3, 4, 5, 6] rfl rfl) hS ls (lv_sub hl [1, 0] rfl)
  exact loop1 7 0 f1 f4 f5 f6 (fun j h => absurd h (Nat.not_lt_zero j)) (by omega) _ _ hP hD hS ls (lv_sub hl [1, 0] rfl)
abbrev cX8_put : ByteArray := prog_10_method_2_code
def yX8_put : MethodName := ⟨RX8, "put", "(I)V"⟩
theorem t536 : Cond.code yX8_put cX8_put 3 none ∈ GW := gw_mem 650 (by decide +kernel) (by decide +kernel)
theorem dX8_put_0 : decode cX8_put 0 = .ok (.bipush 24, 2) := by decide +kernel
theorem dX8_put_2 : decode cX8_put 2 = .ok (.istore_n 2, 1) := by decide +kernel
theorem dX8_put_3 : decode cX8_put 3 = .ok (.iload_n 2, 1) := by decide +kernel
theorem dX8_put_4 : decode cX8_put 4 = .ok (.ifCond .lt 45, 3) := by decide +kernel
theorem dX8_put_7 : decode cX8_put 7 = .ok (.aload_n 0, 1) := by decide +kernel
theorem dX8_put_8 : decode cX8_put 8 = .ok (.getfield 33, 3) := by decide +kernel
theorem t97 : Cond.fieldLink RX8 33 "LikenessPound$Tape" "length" "I" ∈ GW := gw_mem 211 (by decide +kernel) (by decide +kernel)
theorem gf_X8_33 {p : Program} {l : Launch} {e : Env} {R : Room} {s : State} {m : MethodId} {args : Array Value} {below : List Frame} {meth : Method} {c : Code} {H : Heap} {locs : List Loc} {cells slots : Nat} {Q : State → Prop} {cc : ByteArray} {pc : Nat} {ls : Array Slot} {rest : List Value} {D : va_G} {a : Nat} {tys : List (ClassId × FieldType)} {ws : va_W} (hx : p.tables.exec = Jvm.exec) (hb : c.code = cc) (hts : ∀ w ∈ GW, w.before args s = true) (hown : s.vm.findClass RX8 = some m.cls) (hK : va_K D vwCl tys s) (hP : va_P D vwCl ws H) (q0 : Nat) {fs : List Value} (he : ws[q0]? = some (a, .inr (9, fs))) {v : Value} (hv : fs[2]? = some v) (hdg : decode cc pc = .ok (.getfield 33, 3)) (kk : W p l e R s m args below meth c H locs cells slots Q (F0 m (pc + 3) ls (v :: rest))) : W p l e R s m args below meth c H locs cells slots Q (F0 m pc ls (.ref a :: rest)) := va_get (C := RX8) (T := TX8) (N := 12) (ci := 9) hx hb hts inX8 hown hK hP q0 he rfl 2 (by decide) (hts _ t97) (fun _ h => h) hv hdg kk
theorem dX8_put_11 : decode cX8_put 11 = .ok (.sipush 940, 3) := by decide +kernel
theorem dX8_put_14 : decode cX8_put 14 = .ok (.if_icmp .ge 35, 3) := by decide +kernel
theorem dX8_put_17 : decode cX8_put 17 = .ok (.aload_n 0, 1) := by decide +kernel
theorem dX8_put_18 : decode cX8_put 18 = .ok (.getfield 9, 3) := by decide +kernel
theorem t93 : Cond.fieldLink RX8 9 "LikenessPound$Tape" "bytes" "[I" ∈ GW := gw_mem 207 (by decide +kernel) (by decide +kernel)
theorem gf_X8_9 {p : Program} {l : Launch} {e : Env} {R : Room} {s : State} {m : MethodId} {args : Array Value} {below : List Frame} {meth : Method} {c : Code} {H : Heap} {locs : List Loc} {cells slots : Nat} {Q : State → Prop} {cc : ByteArray} {pc : Nat} {ls : Array Slot} {rest : List Value} {D : va_G} {a : Nat} {tys : List (ClassId × FieldType)} {ws : va_W} (hx : p.tables.exec = Jvm.exec) (hb : c.code = cc) (hts : ∀ w ∈ GW, w.before args s = true) (hown : s.vm.findClass RX8 = some m.cls) (hK : va_K D vwCl tys s) (hP : va_P D vwCl ws H) (q0 : Nat) {fs : List Value} (he : ws[q0]? = some (a, .inr (9, fs))) {v : Value} (hv : fs[0]? = some v) (hdg : decode cc pc = .ok (.getfield 9, 3)) (kk : W p l e R s m args below meth c H locs cells slots Q (F0 m (pc + 3) ls (v :: rest))) : W p l e R s m args below meth c H locs cells slots Q (F0 m pc ls (.ref a :: rest)) := va_get (C := RX8) (T := TX8) (N := 12) (ci := 9) hx hb hts inX8 hown hK hP q0 he rfl 0 (by decide) (hts _ t93) (fun _ h => h) hv hdg kk
theorem dX8_put_21 : decode cX8_put 21 = .ok (.aload_n 0, 1) := by decide +kernel
theorem dX8_put_22 : decode cX8_put 22 = .ok (.getfield 33, 3) := by decide +kernel
theorem dX8_put_25 : decode cX8_put 25 = .ok (.iload_n 1, 1) := by decide +kernel
theorem dX8_put_26 : decode cX8_put 26 = .ok (.iload_n 2, 1) := by decide +kernel
theorem dX8_put_27 : decode cX8_put 27 = .ok (.iushr, 1) := by decide +kernel
theorem dX8_put_28 : decode cX8_put 28 = .ok (.sipush 255, 3) := by decide +kernel
theorem dX8_put_31 : decode cX8_put 31 = .ok (.iand, 1) := by decide +kernel
theorem dX8_put_32 : decode cX8_put 32 = .ok (.iastore, 1) := by decide +kernel
theorem dX8_put_33 : decode cX8_put 33 = .ok (.aload_n 0, 1) := by decide +kernel
theorem dX8_put_34 : decode cX8_put 34 = .ok (.dup, 1) := by decide +kernel
theorem dX8_put_35 : decode cX8_put 35 = .ok (.getfield 33, 3) := by decide +kernel
theorem dX8_put_38 : decode cX8_put 38 = .ok (.iconst 1, 1) := by decide +kernel
theorem dX8_put_39 : decode cX8_put 39 = .ok (.iadd, 1) := by decide +kernel
theorem dX8_put_40 : decode cX8_put 40 = .ok (.putfield 33, 3) := by decide +kernel
theorem pf_X8_33 {p : Program} {l : Launch} {e : Env} {R : Room} {s : State} {m : MethodId} {args : Array Value} {below : List Frame} {meth : Method} {c : Code} {H : Heap} {locs : List Loc} {cells slots : Nat} {Q : State → Prop} {cc : ByteArray} {pc : Nat} {ls : Array Slot} {rest : List Value} {D : va_G} {A : Nat → Prop} {a : Nat} {tys : List (ClassId × FieldType)} {ws : va_W} {H0 : Heap} (hx : p.tables.exec = Jvm.exec) (hb : c.code = cc) (hts : ∀ w ∈ GW, w.before args s = true) (hown : s.vm.findClass RX8 = some m.cls) (hK : va_K D vwCl tys s) (hP : va_P D vwCl ws H) (hD : va_D A ws) (hS0 : va_S A H0 H locs) (q0 : Nat) {fs : List Value} (he : ws[q0]? = some (a, .inr (9, fs))) {v : Value} (hn : narrow (tyX8 2) v = v) (hfit : fits (tyX8 2) v = true) (hl : 2 < fs.length) (hdg : decode cc pc = .ok (.putfield 33, 3)) (kk : ∀ (H1 : Heap) (locs1 : List Loc), va_P D vwCl (ws.set q0 (a, .inr (9, fs.set 2 v))) H1 → va_D A (ws.set q0 (a, .inr (9, fs.set 2 v))) → va_S A H0 H1 locs1 → W p l e R s m args below meth c H1 locs1 cells slots Q (F0 m (pc + 3) ls rest)) : W p l e R s m args below meth c H locs cells slots Q (F0 m pc ls (v :: .ref a :: rest)) := va_put (C := RX8) (T := TX8) (N := 12) (ci := 9) hx hb hts inX8 tyX8 tkX8 nmX8 hown hK hP hD hS0 q0 he rfl 2 (by decide) (hts _ t97) (fun _ h => h) rfl (tkX8 2 (by decide)) hn hfit hl hdg kk
theorem dX8_put_43 : decode cX8_put 43 = .ok (.iinc 2 (-8), 3) := by decide +kernel
theorem dX8_put_46 : decode cX8_put 46 = .ok (.goto (-43), 3) := by decide +kernel
theorem dX8_put_49 : decode cX8_put 49 = .ok (.return_, 1) := by decide +kernel
set_option maxHeartbeats 4000000 in
set_option maxRecDepth 100000 in
theorem c_Tape_put (l : Launch) (dC : Nat → ClassId) (dI : Nat → Nat → Nat) (cy : Nat → ClassId) (sz : Nat) (h0 : Nat) (b1 : Nat) (b2 : Nat) (xlim : Int32) (xat : Int32) (xkd : Int32) (xstt : Int32) (xwd : Int32) (xco : Int64) (xnu : Int32) (xfk : Int32) (xfp : Int32) (num : Int32) (L : Nat) (fb : Nat → Int32) (hL : L + 4 ≤ 940) : Met l yX8_put (wl yX8_put cX8_put 3 none) ({ frames := 0, cells := 0, slots := 0, locals := 0 }) (Pw (dC, dI) vwCl cy [(h0, .inr (9, [.ref b1, .ref b2, .int (nI L), .int xlim, .int xat, .int xkd, .int xstt, .int xwd, .long xco, .int xnu, .int xfk, .int xfp])), (b1, .inl (cy 0, 940, .inl fb))] sz [.ref h0, .int num] nE) (Qv (dC, dI) vwCl (fun (u : (Nat → Int32)) => True) (fun (u : (Nat → Int32)) => [(h0, .inr (9, [.ref b1, .ref b2, .int (nI (L + 4)), .int xlim, .int xat, .int xkd, .int xstt, .int xwd, .long xco, .int xnu, .int xfk, .int xfp])), (b1, .inl (cy 0, 940, .inl u))]) (va_A [(h0, .inr (9, [.ref b1, .ref b2, .int (nI L), .int xlim, .int xat, .int xkd, .int xstt, .int xwd, .long xco, .int xnu, .int xfk, .int xfp])), (b1, .inl (cy 0, 940, .inl fb))] sz)) 0 0 (va_A [(h0, .inr (9, [.ref b1, .ref b2, .int (nI L), .int xlim, .int xat, .int xkd, .int xstt, .int xwd, .long xco, .int xnu, .int xfk, .int xfp])), (b1, .inl (cy 0, 940, .inl fb))] sz) := by
  refine mw (Qc := Qv (dC, dI) vwCl (fun (u : (Nat → Int32)) => True) (fun (u : (Nat → Int32)) => [(h0, .inr (9, [.ref b1, .ref b2, .int (nI (L + 4)), .int xlim, .int xat, .int xkd, .int xstt, .int xwd, .long xco, .int xnu, .int xfk, .int xfp])), (b1, .inl (cy 0, 940, .inl u))])) RX8 rfl (by decide +kernel) (Nat.le_of_ble_eq_true rfl) ?_
  intro p e s m below meth c A hx hb hr hlocks av9 hav hts hown hnm hml hK hP hD hA hS hE hAe Q9 hQ9 ls hl
  have hl : lv_has ls 3 [(0, .ref h0), (1, .int num)] := hl
  refine lv_bipush (v := 24) hx hb dX8_put_0 (by decide) ?_
  refine lv_istore_n (lv' := [(2, .int 24), (0, .ref h0), (1, .int num)]) hx hb dX8_put_2 rfl hl (by decide) rfl (fun ls hl => ?_)
  refine lv_iload_n hx hb dX8_put_3 rfl (lv_at hl 0 rfl) ?_
  refine lv_if_lt (tgt := 49) hx hb dX8_put_4 (by decide) (fun c9 => absurd c9 (by decide)) (fun _ => ?_)
  refine lv_aload_n hx hb dX8_put_7 rfl (lv_at hl 1 rfl) ?_
  refine gf_X8_33 hx hb hts hown hK hP 0 rfl rfl dX8_put_8 ?_
  refine lv_sipush (v := 940) hx hb dX8_put_11 (by decide) ?_
  refine lv_icmp_ge (tgt := 49) hx hb dX8_put_14 (by decide) (fun c9 => absurd c9 (nI_ge (b := 940) (by omega) (by decide))) (fun _ => ?_)
  refine lv_aload_n hx hb dX8_put_17 rfl (lv_at hl 1 rfl) ?_
  refine gf_X8_9 hx hb hts hown hK hP 0 rfl rfl dX8_put_18 ?_
  refine lv_aload_n hx hb dX8_put_21 rfl (lv_at hl 1 rfl) ?_
  refine gf_X8_33 hx hb hts hown hK hP 0 rfl rfl dX8_put_22 ?_
  refine lv_iload_n hx hb dX8_put_25 rfl (lv_at hl 2 rfl) ?_
  refine lv_iload_n hx hb dX8_put_26 rfl (lv_at hl 0 rfl) ?_
  obtain ⟨us_1, eus_1⟩ : ∃ z : Int32, (Int32.toUInt32 num >>> (Int32.toUInt32 24 &&& Int32.toUInt32 31)).toInt32 = z := ⟨_, rfl⟩
  refine lv_iushr (v := us_1) hx hb dX8_put_27 eus_1 ?_
  refine lv_sipush (v := 255) hx hb dX8_put_28 (by decide) ?_
  refine lv_iand hx hb dX8_put_31 ?_
  refine va_iast hx hb hK hP hD hS 1 0 rfl rfl (vp_in_nI (n := L) (N := 940) (by omega) (by omega)) dX8_put_32 (fun H locs hP hD hS => ?_)
  obtain ⟨f_2, ef_2⟩ : ∃ z : Nat → Int32, z = upd fb (Int32.toNatClampNeg (nI L)) (us_1 &&& 255) := ⟨_, rfl⟩
  have hP : va_P (dC, dI) vwCl [(h0, .inr (9, [.ref b1, .ref b2, .int (nI L), .int xlim, .int xat, .int xkd, .int xstt, .int xwd, .long xco, .int xnu, .int xfk, .int xfp])), (b1, .inl (cy 0, 940, .inl f_2))] H := by rw [ef_2]; exact hP
  have hD : va_D A [(h0, .inr (9, [.ref b1, .ref b2, .int (nI L), .int xlim, .int xat, .int xkd, .int xstt, .int xwd, .long xco, .int xnu, .int xfk, .int xfp])), (b1, .inl (cy 0, 940, .inl f_2))] := by rw [ef_2]; exact hD
  rw [(nI_clamp (n := L) (by omega))] at ef_2
  refine lv_aload_n hx hb dX8_put_33 rfl (lv_at hl 1 rfl) ?_
  refine lv_dup hx hb dX8_put_34 rfl ?_
  refine gf_X8_33 hx hb hts hown hK hP 0 rfl rfl dX8_put_35 ?_
  refine lv_iconst (v := 1) hx hb dX8_put_38 (by decide) ?_
  refine lv_iadd hx hb dX8_put_39 ?_
  refine as_i (nI (L + 1)) (nI_add L 1) ?_
  refine pf_X8_33 hx hb hts hown hK hP hD hS 0 rfl rfl rfl (Nat.le_of_ble_eq_true rfl) dX8_put_40 (fun H locs hP hD hS => ?_)
  have hP : va_P (dC, dI) vwCl [(h0, .inr (9, [.ref b1, .ref b2, .int (nI (L + 1)), .int xlim, .int xat, .int xkd, .int xstt, .int xwd, .long xco, .int xnu, .int xfk, .int xfp])), (b1, .inl (cy 0, 940, .inl f_2))] H := hP
  have hD : va_D A [(h0, .inr (9, [.ref b1, .ref b2, .int (nI (L + 1)), .int xlim, .int xat, .int xkd, .int xstt, .int xwd, .long xco, .int xnu, .int xfk, .int xfp])), (b1, .inl (cy 0, 940, .inl f_2))] := hD
  refine lv_iinc (v := 16) (lv' := [(2, .int 16), (0, .ref h0), (1, .int num)]) hx hb dX8_put_43 hl (k := 0) rfl (by decide) (by decide) rfl (fun ls hl => ?_)
  refine lv_goto (tgt := 3) hx hb dX8_put_46 (by decide) ?_
  refine lv_iload_n hx hb dX8_put_3 rfl (lv_at hl 0 rfl) ?_
  refine lv_if_lt (tgt := 49) hx hb dX8_put_4 (by decide) (fun c9 => absurd c9 (by decide)) (fun _ => ?_)
  refine lv_aload_n hx hb dX8_put_7 rfl (lv_at hl 1 rfl) ?_
  refine gf_X8_33 hx hb hts hown hK hP 0 rfl rfl dX8_put_8 ?_
  refine lv_sipush (v := 940) hx hb dX8_put_11 (by decide) ?_
  refine lv_icmp_ge (tgt := 49) hx hb dX8_put_14 (by decide) (fun c9 => absurd c9 (nI_ge (b := 940) (by omega) (by decide))) (fun _ => ?_)
  refine lv_aload_n hx hb dX8_put_17 rfl (lv_at hl 1 rfl) ?_
  refine gf_X8_9 hx hb hts hown hK hP 0 rfl rfl dX8_put_18 ?_
  refine lv_aload_n hx hb dX8_put_21 rfl (lv_at hl 1 rfl) ?_
  refine gf_X8_33 hx hb hts hown hK hP 0 rfl rfl dX8_put_22 ?_
  refine lv_iload_n hx hb dX8_put_25 rfl (lv_at hl 2 rfl) ?_
  refine lv_iload_n hx hb dX8_put_26 rfl (lv_at hl 0 rfl) ?_
  obtain ⟨us_3, eus_3⟩ : ∃ z : Int32, (Int32.toUInt32 num >>> (Int32.toUInt32 16 &&& Int32.toUInt32 31)).toInt32 = z := ⟨_, rfl⟩
  refine lv_iushr (v := us_3) hx hb dX8_put_27 eus_3 ?_
  refine lv_sipush (v := 255) hx hb dX8_put_28 (by decide) ?_
  refine lv_iand hx hb dX8_put_31 ?_
  refine va_iast hx hb hK hP hD hS 1 0 rfl rfl (vp_in_nI (n := (L + 1)) (N := 940) (by omega) (by omega)) dX8_put_32 (fun H locs hP hD hS => ?_)
  obtain ⟨f_4, ef_4⟩ : ∃ z : Nat → Int32, z = upd f_2 (Int32.toNatClampNeg (nI (L + 1))) (us_3 &&& 255) := ⟨_, rfl⟩
  have hP : va_P (dC, dI) vwCl [(h0, .inr (9, [.ref b1, .ref b2, .int (nI (L + 1)), .int xlim, .int xat, .int xkd, .int xstt, .int xwd, .long xco, .int xnu, .int xfk, .int xfp])), (b1, .inl (cy 0, 940, .inl f_4))] H := by rw [ef_4]; exact hP
  have hD : va_D A [(h0, .inr (9, [.ref b1, .ref b2, .int (nI (L + 1)), .int xlim, .int xat, .int xkd, .int xstt, .int xwd, .long xco, .int xnu, .int xfk, .int xfp])), (b1, .inl (cy 0, 940, .inl f_4))] := by rw [ef_4]; exact hD
  rw [(nI_clamp (n := (L + 1)) (by omega))] at ef_4
  refine lv_aload_n hx hb dX8_put_33 rfl (lv_at hl 1 rfl) ?_
  refine lv_dup hx hb dX8_put_34 rfl ?_
  refine gf_X8_33 hx hb hts hown hK hP 0 rfl rfl dX8_put_35 ?_
  refine lv_iconst (v := 1) hx hb dX8_put_38 (by decide) ?_
  refine lv_iadd hx hb dX8_put_39 ?_
  refine as_i (nI ((L + 1) + 1)) (nI_add (L + 1) 1) ?_
  refine pf_X8_33 hx hb hts hown hK hP hD hS 0 rfl rfl rfl (Nat.le_of_ble_eq_true rfl) dX8_put_40 (fun H locs hP hD hS => ?_)
  have hP : va_P (dC, dI) vwCl [(h0, .inr (9, [.ref b1, .ref b2, .int (nI ((L + 1) + 1)), .int xlim, .int xat, .int xkd, .int xstt, .int xwd, .long xco, .int xnu, .int xfk, .int xfp])), (b1, .inl (cy 0, 940, .inl f_4))] H := hP
  have hD : va_D A [(h0, .inr (9, [.ref b1, .ref b2, .int (nI ((L + 1) + 1)), .int xlim, .int xat, .int xkd, .int xstt, .int xwd, .long xco, .int xnu, .int xfk, .int xfp])), (b1, .inl (cy 0, 940, .inl f_4))] := hD
  refine lv_iinc (v := 8) (lv' := [(2, .int 8), (0, .ref h0), (1, .int num)]) hx hb dX8_put_43 hl (k := 0) rfl (by decide) (by decide) rfl (fun ls hl => ?_)
  refine lv_goto (tgt := 3) hx hb dX8_put_46 (by decide) ?_
  refine lv_iload_n hx hb dX8_put_3 rfl (lv_at hl 0 rfl) ?_
  refine lv_if_lt (tgt := 49) hx hb dX8_put_4 (by decide) (fun c9 => absurd c9 (by decide)) (fun _ => ?_)
  refine lv_aload_n hx hb dX8_put_7 rfl (lv_at hl 1 rfl) ?_
  refine gf_X8_33 hx hb hts hown hK hP 0 rfl rfl dX8_put_8 ?_
  refine lv_sipush (v := 940) hx hb dX8_put_11 (by decide) ?_
  refine lv_icmp_ge (tgt := 49) hx hb dX8_put_14 (by decide) (fun c9 => absurd c9 (nI_ge (b := 940) (by omega) (by decide))) (fun _ => ?_)
  refine lv_aload_n hx hb dX8_put_17 rfl (lv_at hl 1 rfl) ?_
  refine gf_X8_9 hx hb hts hown hK hP 0 rfl rfl dX8_put_18 ?_
  refine lv_aload_n hx hb dX8_put_21 rfl (lv_at hl 1 rfl) ?_
  refine gf_X8_33 hx hb hts hown hK hP 0 rfl rfl dX8_put_22 ?_
  refine lv_iload_n hx hb dX8_put_25 rfl (lv_at hl 2 rfl) ?_
  refine lv_iload_n hx hb dX8_put_26 rfl (lv_at hl 0 rfl) ?_
  obtain ⟨us_5, eus_5⟩ : ∃ z : Int32, (Int32.toUInt32 num >>> (Int32.toUInt32 8 &&& Int32.toUInt32 31)).toInt32 = z := ⟨_, rfl⟩
  refine lv_iushr (v := us_5) hx hb dX8_put_27 eus_5 ?_
  refine lv_sipush (v := 255) hx hb dX8_put_28 (by decide) ?_
  refine lv_iand hx hb dX8_put_31 ?_
  refine va_iast hx hb hK hP hD hS 1 0 rfl rfl (vp_in_nI (n := ((L + 1) + 1)) (N := 940) (by omega) (by omega)) dX8_put_32 (fun H locs hP hD hS => ?_)
  obtain ⟨f_6, ef_6⟩ : ∃ z : Nat → Int32, z = upd f_4 (Int32.toNatClampNeg (nI ((L + 1) + 1))) (us_5 &&& 255) := ⟨_, rfl⟩
  have hP : va_P (dC, dI) vwCl [(h0, .inr (9, [.ref b1, .ref b2, .int (nI ((L + 1) + 1)), .int xlim, .int xat, .int xkd, .int xstt, .int xwd, .long xco, .int xnu, .int xfk, .int xfp])), (b1, .inl (cy 0, 940, .inl f_6))] H := by rw [ef_6]; exact hP
  have hD : va_D A [(h0, .inr (9, [.ref b1, .ref b2, .int (nI ((L + 1) + 1)), .int xlim, .int xat, .int xkd, .int xstt, .int xwd, .long xco, .int xnu, .int xfk, .int xfp])), (b1, .inl (cy 0, 940, .inl f_6))] := by rw [ef_6]; exact hD
  rw [(nI_clamp (n := ((L + 1) + 1)) (by omega))] at ef_6
  refine lv_aload_n hx hb dX8_put_33 rfl (lv_at hl 1 rfl) ?_
  refine lv_dup hx hb dX8_put_34 rfl ?_
  refine gf_X8_33 hx hb hts hown hK hP 0 rfl rfl dX8_put_35 ?_
  refine lv_iconst (v := 1) hx hb dX8_put_38 (by decide) ?_
  refine lv_iadd hx hb dX8_put_39 ?_
  refine as_i (nI (((L + 1) + 1) + 1)) (nI_add ((L + 1) + 1) 1) ?_
  refine pf_X8_33 hx hb hts hown hK hP hD hS 0 rfl rfl rfl (Nat.le_of_ble_eq_true rfl) dX8_put_40 (fun H locs hP hD hS => ?_)
  have hP : va_P (dC, dI) vwCl [(h0, .inr (9, [.ref b1, .ref b2, .int (nI (((L + 1) + 1) + 1)), .int xlim, .int xat, .int xkd, .int xstt, .int xwd, .long xco, .int xnu, .int xfk, .int xfp])), (b1, .inl (cy 0, 940, .inl f_6))] H := hP
  have hD : va_D A [(h0, .inr (9, [.ref b1, .ref b2, .int (nI (((L + 1) + 1) + 1)), .int xlim, .int xat, .int xkd, .int xstt, .int xwd, .long xco, .int xnu, .int xfk, .int xfp])), (b1, .inl (cy 0, 940, .inl f_6))] := hD
  refine lv_iinc (v := 0) (lv' := [(2, .int 0), (0, .ref h0), (1, .int num)]) hx hb dX8_put_43 hl (k := 0) rfl (by decide) (by decide) rfl (fun ls hl => ?_)
  refine lv_goto (tgt := 3) hx hb dX8_put_46 (by decide) ?_
  refine lv_iload_n hx hb dX8_put_3 rfl (lv_at hl 0 rfl) ?_
  refine lv_if_lt (tgt := 49) hx hb dX8_put_4 (by decide) (fun c9 => absurd c9 (by decide)) (fun _ => ?_)
  refine lv_aload_n hx hb dX8_put_7 rfl (lv_at hl 1 rfl) ?_
  refine gf_X8_33 hx hb hts hown hK hP 0 rfl rfl dX8_put_8 ?_
  refine lv_sipush (v := 940) hx hb dX8_put_11 (by decide) ?_
  refine lv_icmp_ge (tgt := 49) hx hb dX8_put_14 (by decide) (fun c9 => absurd c9 (nI_ge (b := 940) (by omega) (by decide))) (fun _ => ?_)
  refine lv_aload_n hx hb dX8_put_17 rfl (lv_at hl 1 rfl) ?_
  refine gf_X8_9 hx hb hts hown hK hP 0 rfl rfl dX8_put_18 ?_
  refine lv_aload_n hx hb dX8_put_21 rfl (lv_at hl 1 rfl) ?_
  refine gf_X8_33 hx hb hts hown hK hP 0 rfl rfl dX8_put_22 ?_
  refine lv_iload_n hx hb dX8_put_25 rfl (lv_at hl 2 rfl) ?_
  refine lv_iload_n hx hb dX8_put_26 rfl (lv_at hl 0 rfl) ?_
  obtain ⟨us_7, eus_7⟩ : ∃ z : Int32, (Int32.toUInt32 num >>> (Int32.toUInt32 0 &&& Int32.toUInt32 31)).toInt32 = z := ⟨_, rfl⟩
  refine lv_iushr (v := us_7) hx hb dX8_put_27 eus_7 ?_
  refine lv_sipush (v := 255) hx hb dX8_put_28 (by decide) ?_
  refine lv_iand hx hb dX8_put_31 ?_
  refine va_iast hx hb hK hP hD hS 1 0 rfl rfl (vp_in_nI (n := (((L + 1) + 1) + 1)) (N := 940) (by omega) (by omega)) dX8_put_32 (fun H locs hP hD hS => ?_)
  obtain ⟨f_8, ef_8⟩ : ∃ z : Nat → Int32, z = upd f_6 (Int32.toNatClampNeg (nI (((L + 1) + 1) + 1))) (us_7 &&& 255) := ⟨_, rfl⟩
  have hP : va_P (dC, dI) vwCl [(h0, .inr (9, [.ref b1, .ref b2, .int (nI (((L + 1) + 1) + 1)), .int xlim, .int xat, .int xkd, .int xstt, .int xwd, .long xco, .int xnu, .int xfk, .int xfp])), (b1, .inl (cy 0, 940, .inl f_8))] H := by rw [ef_8]; exact hP
  have hD : va_D A [(h0, .inr (9, [.ref b1, .ref b2, .int (nI (((L + 1) + 1) + 1)), .int xlim, .int xat, .int xkd, .int xstt, .int xwd, .long xco, .int xnu, .int xfk, .int xfp])), (b1, .inl (cy 0, 940, .inl f_8))] := by rw [ef_8]; exact hD
  rw [(nI_clamp (n := (((L + 1) + 1) + 1)) (by omega))] at ef_8
  refine lv_aload_n hx hb dX8_put_33 rfl (lv_at hl 1 rfl) ?_
  refine lv_dup hx hb dX8_put_34 rfl ?_
  refine gf_X8_33 hx hb hts hown hK hP 0 rfl rfl dX8_put_35 ?_
  refine lv_iconst (v := 1) hx hb dX8_put_38 (by decide) ?_
  refine lv_iadd hx hb dX8_put_39 ?_
  refine as_i (nI ((((L + 1) + 1) + 1) + 1)) (nI_add (((L + 1) + 1) + 1) 1) ?_
  refine pf_X8_33 hx hb hts hown hK hP hD hS 0 rfl rfl rfl (Nat.le_of_ble_eq_true rfl) dX8_put_40 (fun H locs hP hD hS => ?_)
  have hP : va_P (dC, dI) vwCl [(h0, .inr (9, [.ref b1, .ref b2, .int (nI ((((L + 1) + 1) + 1) + 1)), .int xlim, .int xat, .int xkd, .int xstt, .int xwd, .long xco, .int xnu, .int xfk, .int xfp])), (b1, .inl (cy 0, 940, .inl f_8))] H := hP
  have hD : va_D A [(h0, .inr (9, [.ref b1, .ref b2, .int (nI ((((L + 1) + 1) + 1) + 1)), .int xlim, .int xat, .int xkd, .int xstt, .int xwd, .long xco, .int xnu, .int xfk, .int xfp])), (b1, .inl (cy 0, 940, .inl f_8))] := hD
  refine lv_iinc (v := (-8)) (lv' := [(2, .int (-8)), (0, .ref h0), (1, .int num)]) hx hb dX8_put_43 hl (k := 0) rfl (by decide) (by decide) rfl (fun ls hl => ?_)
  refine lv_goto (tgt := 3) hx hb dX8_put_46 (by decide) ?_
  refine lv_iload_n hx hb dX8_put_3 rfl (lv_at hl 0 rfl) ?_
  refine lv_if_lt (tgt := 49) hx hb dX8_put_4 (by decide) (fun _ => ?_) (fun c9 => absurd (by decide) c9)
  rw [hQ9]
  exact re_v f_8 hx hb hr hlocks trivial (hP.sub [0, 1] rfl) (hD.sub [0, 1] rfl rfl) hS dX8_put_49
def endF (x : Int32) : Int32 := if x = 0 then 1 else 0
theorem endF_lo {x : Int32} (h : x < 0) : endF x = 0 := if_neg (fun e => by rw [e] at h; exact absurd h (by decide))
theorem endF_hi {x : Int32} (h : ¬ x ≤ 0) : endF x = 0 := if_neg (fun e => by rw [e] at h; exact h (by decide))
theorem endF_in {x : Int32} (h : ¬ x < 0) (h2 : x ≤ 0) : endF x = 1 := if_pos (Int32.le_antisymm h2 (Int32.not_lt.mp h))
abbrev cX10_feed : ByteArray := prog_1_method_2_code
def yX10_feed : MethodName := ⟨RX10, "feed", "(IIIII)I"⟩
theorem t532 : Cond.code yX10_feed cX10_feed 6 (some .int) ∈ GW := gw_mem 646 (by decide +kernel) (by decide +kernel)
theorem dX10_feed_0 : decode cX10_feed 0 = .ok (.aload_n 0, 1) := by decide +kernel
theorem dX10_feed_1 : decode cX10_feed 1 = .ok (.getfield 10, 3) := by decide +kernel
theorem dX10_feed_4 : decode cX10_feed 4 = .ok (.getfield 87, 3) := by decide +kernel
theorem dX10_feed_7 : decode cX10_feed 7 = .ok (.sipush 920, 3) := by decide +kernel
theorem dX10_feed_10 : decode cX10_feed 10 = .ok (.if_icmp .le 5, 3) := by decide +kernel
theorem dX10_feed_15 : decode cX10_feed 15 = .ok (.aload_n 0, 1) := by decide +kernel
theorem dX10_feed_16 : decode cX10_feed 16 = .ok (.getfield 10, 3) := by decide +kernel
theorem dX10_feed_19 : decode cX10_feed 19 = .ok (.iload_n 1, 1) := by decide +kernel
theorem dX10_feed_20 : decode cX10_feed 20 = .ok (.invokevirtual 90, 3) := by decide +kernel
theorem t533 : Cond.methodLink RX10 90 yX8_put ∈ GW := gw_mem 647 (by decide +kernel) (by decide +kernel)
theorem t2 : Cond.initialized RX8 ∈ GW := gw_mem 116 (by decide +kernel) (by decide +kernel)
theorem t534 : Cond.instanceMethod yX8_put ∈ GW := gw_mem 648 (by decide +kernel) (by decide +kernel)
theorem t535 : Cond.selects RX8 yX8_put yX8_put ∈ GW := gw_mem 649 (by decide +kernel) (by decide +kernel)
theorem cw_X10_90 {R : Room} {s : State} {args : Array Value} {rm : Room} {mc ms : Nat} (hts : ∀ w ∈ GW, w.before args s = true) (hrc : rm.cells = mc) (hrs : rm.slots = ms) (hR : rm.frames + 1 ≤ R.frames ∧ 8 + (3 + 11) + rm.locals ≤ R.locals) : CallW R s args RX10 RX8 90 yX8_put cX8_put 3 none (wl yX8_put cX8_put 3 none) rm mc ms 1 := cwV 1 hts (gi_V t533 t534 t535 t2 t536) rfl hrc hrs (by decide +kernel) hR
theorem dX10_feed_23 : decode cX10_feed 23 = .ok (.aload_n 0, 1) := by decide +kernel
theorem dX10_feed_24 : decode cX10_feed 24 = .ok (.getfield 10, 3) := by decide +kernel
theorem dX10_feed_27 : decode cX10_feed 27 = .ok (.iload_n 2, 1) := by decide +kernel
theorem dX10_feed_28 : decode cX10_feed 28 = .ok (.invokevirtual 90, 3) := by decide +kernel
theorem dX10_feed_31 : decode cX10_feed 31 = .ok (.aload_n 0, 1) := by decide +kernel
theorem dX10_feed_32 : decode cX10_feed 32 = .ok (.getfield 10, 3) := by decide +kernel
theorem dX10_feed_35 : decode cX10_feed 35 = .ok (.iload_n 3, 1) := by decide +kernel
theorem dX10_feed_36 : decode cX10_feed 36 = .ok (.invokevirtual 90, 3) := by decide +kernel
theorem dX10_feed_39 : decode cX10_feed 39 = .ok (.aload_n 0, 1) := by decide +kernel
theorem dX10_feed_40 : decode cX10_feed 40 = .ok (.getfield 10, 3) := by decide +kernel
theorem dX10_feed_43 : decode cX10_feed 43 = .ok (.iload 4, 2) := by decide +kernel
theorem dX10_feed_45 : decode cX10_feed 45 = .ok (.invokevirtual 90, 3) := by decide +kernel
theorem dX10_feed_48 : decode cX10_feed 48 = .ok (.aload_n 0, 1) := by decide +kernel
theorem dX10_feed_49 : decode cX10_feed 49 = .ok (.getfield 10, 3) := by decide +kernel
theorem dX10_feed_52 : decode cX10_feed 52 = .ok (.iload 5, 2) := by decide +kernel
theorem dX10_feed_54 : decode cX10_feed 54 = .ok (.invokevirtual 90, 3) := by decide +kernel
theorem dX10_feed_57 : decode cX10_feed 57 = .ok (.aload_n 0, 1) := by decide +kernel
theorem dX10_feed_58 : decode cX10_feed 58 = .ok (.getfield 10, 3) := by decide +kernel
theorem dX10_feed_61 : decode cX10_feed 61 = .ok (.getfield 87, 3) := by decide +kernel
theorem dX10_feed_64 : decode cX10_feed 64 = .ok (.ireturn, 1) := by decide +kernel
set_option maxHeartbeats 4000000 in
set_option maxRecDepth 100000 in
theorem k_feed (l : Launch) (dC : Nat → ClassId) (dI : Nat → Nat → Nat) (cy : Nat → ClassId) (sz : Nat) (ad : Nat → Nat) (ai : Nat → Nat → Int32) (n0 : Int32) (n1 : Int32) (n2 : Int32) (n3 : Int32) (n4 : Int32)  : Met l yX10_feed (wl yX10_feed cX10_feed 6 (some .int)) ({ frames := 1, cells := 0, slots := 0, locals := 64 }) (Pw (dC, dI) vwCl cy [(ad 0, .inr (11, [.ref (ad 1), .ref (ad 4), .ref (ad 5), .ref (ad 10), .ref (ad 23), .ref (ad 24), .ref (ad 25), .ref (ad 27), .ref (ad 28), .ref (ad 29), .ref (ad 30), .ref (ad 31), .ref (ad 54), .int 0, .int (-1), .int 0, .int 0])), (ad 1, .inr (9, [.ref (ad 2), .ref (ad 3), .int 0, .int 0, .int 0, .int 0, .int 0, .int 0, .long 0, .int 0, .int 0, .int 0])), (ad 2, .inl (cy 0, 940, .inl (ai 2)))] sz [.ref (ad 0), .int n0, .int n1, .int n2, .int n3, .int n4] nE) (Qi (dC, dI) vwCl (fun (r : Int32) (u : Unit) => r = 20) (fun (u : Unit) => []) (va_A [(ad 0, .inr (11, [.ref (ad 1), .ref (ad 4), .ref (ad 5), .ref (ad 10), .ref (ad 23), .ref (ad 24), .ref (ad 25), .ref (ad 27), .ref (ad 28), .ref (ad 29), .ref (ad 30), .ref (ad 31), .ref (ad 54), .int 0, .int (-1), .int 0, .int 0])), (ad 1, .inr (9, [.ref (ad 2), .ref (ad 3), .int 0, .int 0, .int 0, .int 0, .int 0, .int 0, .long 0, .int 0, .int 0, .int 0])), (ad 2, .inl (cy 0, 940, .inl (ai 2)))] sz)) 0 0 (va_A [(ad 0, .inr (11, [.ref (ad 1), .ref (ad 4), .ref (ad 5), .ref (ad 10), .ref (ad 23), .ref (ad 24), .ref (ad 25), .ref (ad 27), .ref (ad 28), .ref (ad 29), .ref (ad 30), .ref (ad 31), .ref (ad 54), .int 0, .int (-1), .int 0, .int 0])), (ad 1, .inr (9, [.ref (ad 2), .ref (ad 3), .int 0, .int 0, .int 0, .int 0, .int 0, .int 0, .long 0, .int 0, .int 0, .int 0])), (ad 2, .inl (cy 0, 940, .inl (ai 2)))] sz) := by
  refine mw (Qc := Qi (dC, dI) vwCl (fun (r : Int32) (u : Unit) => r = 20) (fun (u : Unit) => [])) RX10 rfl (by decide +kernel) (Nat.le_of_ble_eq_true rfl) ?_
  intro p e s m below meth c A hx hb hr hlocks av9 hav hts hown hnm hml hK hP hD hA hS hE hAe Q9 hQ9 ls hl
  have hl : lv_has ls 6 [(0, .ref (ad 0)), (1, .int n0), (2, .int n1), (3, .int n2), (4, .int n3), (5, .int n4)] := hl
  refine lv_aload_n hx hb dX10_feed_0 rfl (lv_at hl 0 rfl) ?_
  refine gf_X10_10 hx hb hts hown hK hP 0 rfl rfl dX10_feed_1 ?_
  refine gf_X10_87 hx hb hts hown hK hP 1 rfl rfl dX10_feed_4 ?_
  refine lv_sipush (v := 920) hx hb dX10_feed_7 (by decide) ?_
  refine lv_icmp_le (tgt := 15) hx hb dX10_feed_10 (by decide) (fun _ => ?_) (fun c9 => absurd (by decide) c9)
  refine lv_aload_n hx hb dX10_feed_15 rfl (lv_at hl 0 rfl) ?_
  refine gf_X10_10 hx hb hts hown hK hP 0 rfl rfl dX10_feed_16 ?_
  refine lv_iload_n hx hb dX10_feed_19 rfl (lv_at hl 1 rfl) ?_
  refine jn_v (wr := [(ad 0, .inr (11, [.ref (ad 1), .ref (ad 4), .ref (ad 5), .ref (ad 10), .ref (ad 23), .ref (ad 24), .ref (ad 25), .ref (ad 27), .ref (ad 28), .ref (ad 29), .ref (ad 30), .ref (ad 31), .ref (ad 54), .int 0, .int (-1), .int 0, .int 0]))]) (rV (As := [.int n0]) (rest := []) (ci := 9) ⟨hx, hb, hml, hown, hts⟩ (c_Tape_put l dC dI cy _ (ad 1) (ad 2) (ad 3) 0 0 0 0 0 0 0 0 0 n0 0 (ai 2) (by omega)) (cw_X10_90 hts rfl rfl ⟨Nat.le_of_ble_eq_true rfl, Nat.le_of_ble_eq_true rfl⟩) hP hD hK [1, 2] rfl rfl rfl rfl bl0 e0 rfl hl.1 rfl (Nat.le_of_ble_eq_true rfl) dX10_feed_20 ⟨Nat.le_of_ble_eq_true rfl, Nat.le_of_ble_eq_true rfl⟩) hP hD hS hA [1, 2] [0] rfl rfl rfl (by decide) (fun u_3 H locs hp_2 hP hD hS => ?_)
  obtain ⟨ob_4, rfl⟩ : ∃ z, z = u_3 := ⟨_, rfl⟩
  have hp_2 : True := hp_2
  have hP : va_P (dC, dI) vwCl [(ad 0, .inr (11, [.ref (ad 1), .ref (ad 4), .ref (ad 5), .ref (ad 10), .ref (ad 23), .ref (ad 24), .ref (ad 25), .ref (ad 27), .ref (ad 28), .ref (ad 29), .ref (ad 30), .ref (ad 31), .ref (ad 54), .int 0, .int (-1), .int 0, .int 0])), (ad 1, .inr (9, [.ref (ad 2), .ref (ad 3), .int (nI (0 + 4)), .int 0, .int 0, .int 0, .int 0, .int 0, .long 0, .int 0, .int 0, .int 0])), (ad 2, .inl (cy 0, 940, .inl ob_4))] H := hP
  have hD : va_D A [(ad 0, .inr (11, [.ref (ad 1), .ref (ad 4), .ref (ad 5), .ref (ad 10), .ref (ad 23), .ref (ad 24), .ref (ad 25), .ref (ad 27), .ref (ad 28), .ref (ad 29), .ref (ad 30), .ref (ad 31), .ref (ad 54), .int 0, .int (-1), .int 0, .int 0])), (ad 1, .inr (9, [.ref (ad 2), .ref (ad 3), .int (nI (0 + 4)), .int 0, .int 0, .int 0, .int 0, .int 0, .long 0, .int 0, .int 0, .int 0])), (ad 2, .inl (cy 0, 940, .inl ob_4))] := hD
  refine lv_aload_n hx hb dX10_feed_23 rfl (lv_at hl 0 rfl) ?_
  refine gf_X10_10 hx hb hts hown hK hP 0 rfl rfl dX10_feed_24 ?_
  refine lv_iload_n hx hb dX10_feed_27 rfl (lv_at hl 2 rfl) ?_
  refine jn_v (wr := [(ad 0, .inr (11, [.ref (ad 1), .ref (ad 4), .ref (ad 5), .ref (ad 10), .ref (ad 23), .ref (ad 24), .ref (ad 25), .ref (ad 27), .ref (ad 28), .ref (ad 29), .ref (ad 30), .ref (ad 31), .ref (ad 54), .int 0, .int (-1), .int 0, .int 0]))]) (rV (As := [.int n1]) (rest := []) (ci := 9) ⟨hx, hb, hml, hown, hts⟩ (c_Tape_put l dC dI cy _ (ad 1) (ad 2) (ad 3) 0 0 0 0 0 0 0 0 0 n1 (0 + 4) ob_4 (by omega)) (cw_X10_90 hts rfl rfl ⟨Nat.le_of_ble_eq_true rfl, Nat.le_of_ble_eq_true rfl⟩) hP hD hK [1, 2] rfl rfl rfl rfl bl0 e0 rfl hl.1 rfl (Nat.le_of_ble_eq_true rfl) dX10_feed_28 ⟨Nat.le_of_ble_eq_true rfl, Nat.le_of_ble_eq_true rfl⟩) hP hD hS hA [1, 2] [0] rfl rfl rfl (by decide) (fun u_7 H locs hp_6 hP hD hS => ?_)
  obtain ⟨ob_8, rfl⟩ : ∃ z, z = u_7 := ⟨_, rfl⟩
  have hp_6 : True := hp_6
  have hP : va_P (dC, dI) vwCl [(ad 0, .inr (11, [.ref (ad 1), .ref (ad 4), .ref (ad 5), .ref (ad 10), .ref (ad 23), .ref (ad 24), .ref (ad 25), .ref (ad 27), .ref (ad 28), .ref (ad 29), .ref (ad 30), .ref (ad 31), .ref (ad 54), .int 0, .int (-1), .int 0, .int 0])), (ad 1, .inr (9, [.ref (ad 2), .ref (ad 3), .int (nI ((0 + 4) + 4)), .int 0, .int 0, .int 0, .int 0, .int 0, .long 0, .int 0, .int 0, .int 0])), (ad 2, .inl (cy 0, 940, .inl ob_8))] H := hP
  have hD : va_D A [(ad 0, .inr (11, [.ref (ad 1), .ref (ad 4), .ref (ad 5), .ref (ad 10), .ref (ad 23), .ref (ad 24), .ref (ad 25), .ref (ad 27), .ref (ad 28), .ref (ad 29), .ref (ad 30), .ref (ad 31), .ref (ad 54), .int 0, .int (-1), .int 0, .int 0])), (ad 1, .inr (9, [.ref (ad 2), .ref (ad 3), .int (nI ((0 + 4) + 4)), .int 0, .int 0, .int 0, .int 0, .int 0, .long 0, .int 0, .int 0, .int 0])), (ad 2, .inl (cy 0, 940, .inl ob_8))] := hD
  refine lv_aload_n hx hb dX10_feed_31 rfl (lv_at hl 0 rfl) ?_
  refine gf_X10_10 hx hb hts hown hK hP 0 rfl rfl dX10_feed_32 ?_
  refine lv_iload_n hx hb dX10_feed_35 rfl (lv_at hl 3 rfl) ?_
  refine jn_v (wr := [(ad 0, .inr (11, [.ref (ad 1), .ref (ad 4), .ref (ad 5), .ref (ad 10), .ref (ad 23), .ref (ad 24), .ref (ad 25), .ref (ad 27), .ref (ad 28), .ref (ad 29), .ref (ad 30), .ref (ad 31), .ref (ad 54), .int 0, .int (-1), .int 0, .int 0]))]) (rV (As := [.int n2]) (rest := []) (ci := 9) ⟨hx, hb, hml, hown, hts⟩ (c_Tape_put l dC dI cy _ (ad 1) (ad 2) (ad 3) 0 0 0 0 0 0 0 0 0 n2 ((0 + 4) + 4) ob_8 (by omega)) (cw_X10_90 hts rfl rfl ⟨Nat.le_of_ble_eq_true rfl, Nat.le_of_ble_eq_true rfl⟩) hP hD hK [1, 2] rfl rfl rfl rfl bl0 e0 rfl hl.1 rfl (Nat.le_of_ble_eq_true rfl) dX10_feed_36 ⟨Nat.le_of_ble_eq_true rfl, Nat.le_of_ble_eq_true rfl⟩) hP hD hS hA [1, 2] [0] rfl rfl rfl (by decide) (fun u_11 H locs hp_10 hP hD hS => ?_)
  obtain ⟨ob_12, rfl⟩ : ∃ z, z = u_11 := ⟨_, rfl⟩
  have hp_10 : True := hp_10
  have hP : va_P (dC, dI) vwCl [(ad 0, .inr (11, [.ref (ad 1), .ref (ad 4), .ref (ad 5), .ref (ad 10), .ref (ad 23), .ref (ad 24), .ref (ad 25), .ref (ad 27), .ref (ad 28), .ref (ad 29), .ref (ad 30), .ref (ad 31), .ref (ad 54), .int 0, .int (-1), .int 0, .int 0])), (ad 1, .inr (9, [.ref (ad 2), .ref (ad 3), .int (nI (((0 + 4) + 4) + 4)), .int 0, .int 0, .int 0, .int 0, .int 0, .long 0, .int 0, .int 0, .int 0])), (ad 2, .inl (cy 0, 940, .inl ob_12))] H := hP
  have hD : va_D A [(ad 0, .inr (11, [.ref (ad 1), .ref (ad 4), .ref (ad 5), .ref (ad 10), .ref (ad 23), .ref (ad 24), .ref (ad 25), .ref (ad 27), .ref (ad 28), .ref (ad 29), .ref (ad 30), .ref (ad 31), .ref (ad 54), .int 0, .int (-1), .int 0, .int 0])), (ad 1, .inr (9, [.ref (ad 2), .ref (ad 3), .int (nI (((0 + 4) + 4) + 4)), .int 0, .int 0, .int 0, .int 0, .int 0, .long 0, .int 0, .int 0, .int 0])), (ad 2, .inl (cy 0, 940, .inl ob_12))] := hD
  refine lv_aload_n hx hb dX10_feed_39 rfl (lv_at hl 0 rfl) ?_
  refine gf_X10_10 hx hb hts hown hK hP 0 rfl rfl dX10_feed_40 ?_
  refine lv_iload hx hb dX10_feed_43 (lv_at hl 4 rfl) ?_
  refine jn_v (wr := [(ad 0, .inr (11, [.ref (ad 1), .ref (ad 4), .ref (ad 5), .ref (ad 10), .ref (ad 23), .ref (ad 24), .ref (ad 25), .ref (ad 27), .ref (ad 28), .ref (ad 29), .ref (ad 30), .ref (ad 31), .ref (ad 54), .int 0, .int (-1), .int 0, .int 0]))]) (rV (As := [.int n3]) (rest := []) (ci := 9) ⟨hx, hb, hml, hown, hts⟩ (c_Tape_put l dC dI cy _ (ad 1) (ad 2) (ad 3) 0 0 0 0 0 0 0 0 0 n3 (((0 + 4) + 4) + 4) ob_12 (by omega)) (cw_X10_90 hts rfl rfl ⟨Nat.le_of_ble_eq_true rfl, Nat.le_of_ble_eq_true rfl⟩) hP hD hK [1, 2] rfl rfl rfl rfl bl0 e0 rfl hl.1 rfl (Nat.le_of_ble_eq_true rfl) dX10_feed_45 ⟨Nat.le_of_ble_eq_true rfl, Nat.le_of_ble_eq_true rfl⟩) hP hD hS hA [1, 2] [0] rfl rfl rfl (by decide) (fun u_15 H locs hp_14 hP hD hS => ?_)
  obtain ⟨ob_16, rfl⟩ : ∃ z, z = u_15 := ⟨_, rfl⟩
  have hp_14 : True := hp_14
  have hP : va_P (dC, dI) vwCl [(ad 0, .inr (11, [.ref (ad 1), .ref (ad 4), .ref (ad 5), .ref (ad 10), .ref (ad 23), .ref (ad 24), .ref (ad 25), .ref (ad 27), .ref (ad 28), .ref (ad 29), .ref (ad 30), .ref (ad 31), .ref (ad 54), .int 0, .int (-1), .int 0, .int 0])), (ad 1, .inr (9, [.ref (ad 2), .ref (ad 3), .int (nI ((((0 + 4) + 4) + 4) + 4)), .int 0, .int 0, .int 0, .int 0, .int 0, .long 0, .int 0, .int 0, .int 0])), (ad 2, .inl (cy 0, 940, .inl ob_16))] H := hP
  have hD : va_D A [(ad 0, .inr (11, [.ref (ad 1), .ref (ad 4), .ref (ad 5), .ref (ad 10), .ref (ad 23), .ref (ad 24), .ref (ad 25), .ref (ad 27), .ref (ad 28), .ref (ad 29), .ref (ad 30), .ref (ad 31), .ref (ad 54), .int 0, .int (-1), .int 0, .int 0])), (ad 1, .inr (9, [.ref (ad 2), .ref (ad 3), .int (nI ((((0 + 4) + 4) + 4) + 4)), .int 0, .int 0, .int 0, .int 0, .int 0, .long 0, .int 0, .int 0, .int 0])), (ad 2, .inl (cy 0, 940, .inl ob_16))] := hD
  refine lv_aload_n hx hb dX10_feed_48 rfl (lv_at hl 0 rfl) ?_
  refine gf_X10_10 hx hb hts hown hK hP 0 rfl rfl dX10_feed_49 ?_
  refine lv_iload hx hb dX10_feed_52 (lv_at hl 5 rfl) ?_
  refine jn_v (wr := [(ad 0, .inr (11, [.ref (ad 1), .ref (ad 4), .ref (ad 5), .ref (ad 10), .ref (ad 23), .ref (ad 24), .ref (ad 25), .ref (ad 27), .ref (ad 28), .ref (ad 29), .ref (ad 30), .ref (ad 31), .ref (ad 54), .int 0, .int (-1), .int 0, .int 0]))]) (rV (As := [.int n4]) (rest := []) (ci := 9) ⟨hx, hb, hml, hown, hts⟩ (c_Tape_put l dC dI cy _ (ad 1) (ad 2) (ad 3) 0 0 0 0 0 0 0 0 0 n4 ((((0 + 4) + 4) + 4) + 4) ob_16 (by omega)) (cw_X10_90 hts rfl rfl ⟨Nat.le_of_ble_eq_true rfl, Nat.le_of_ble_eq_true rfl⟩) hP hD hK [1, 2] rfl rfl rfl rfl bl0 e0 rfl hl.1 rfl (Nat.le_of_ble_eq_true rfl) dX10_feed_54 ⟨Nat.le_of_ble_eq_true rfl, Nat.le_of_ble_eq_true rfl⟩) hP hD hS hA [1, 2] [0] rfl rfl rfl (by decide) (fun u_19 H locs hp_18 hP hD hS => ?_)
  obtain ⟨ob_20, rfl⟩ : ∃ z, z = u_19 := ⟨_, rfl⟩
  have hp_18 : True := hp_18
  have hP : va_P (dC, dI) vwCl [(ad 0, .inr (11, [.ref (ad 1), .ref (ad 4), .ref (ad 5), .ref (ad 10), .ref (ad 23), .ref (ad 24), .ref (ad 25), .ref (ad 27), .ref (ad 28), .ref (ad 29), .ref (ad 30), .ref (ad 31), .ref (ad 54), .int 0, .int (-1), .int 0, .int 0])), (ad 1, .inr (9, [.ref (ad 2), .ref (ad 3), .int (nI (((((0 + 4) + 4) + 4) + 4) + 4)), .int 0, .int 0, .int 0, .int 0, .int 0, .long 0, .int 0, .int 0, .int 0])), (ad 2, .inl (cy 0, 940, .inl ob_20))] H := hP
  have hD : va_D A [(ad 0, .inr (11, [.ref (ad 1), .ref (ad 4), .ref (ad 5), .ref (ad 10), .ref (ad 23), .ref (ad 24), .ref (ad 25), .ref (ad 27), .ref (ad 28), .ref (ad 29), .ref (ad 30), .ref (ad 31), .ref (ad 54), .int 0, .int (-1), .int 0, .int 0])), (ad 1, .inr (9, [.ref (ad 2), .ref (ad 3), .int (nI (((((0 + 4) + 4) + 4) + 4) + 4)), .int 0, .int 0, .int 0, .int 0, .int 0, .long 0, .int 0, .int 0, .int 0])), (ad 2, .inl (cy 0, 940, .inl ob_20))] := hD
  refine lv_aload_n hx hb dX10_feed_57 rfl (lv_at hl 0 rfl) ?_
  refine gf_X10_10 hx hb hts hown hK hP 0 rfl rfl dX10_feed_58 ?_
  refine gf_X10_87 hx hb hts hown hK hP 1 rfl rfl dX10_feed_61 ?_
  rw [hQ9]
  exact re_i () hx hb hr hlocks rfl (hP.sub [] rfl) (hD.sub [] rfl rfl) hS dX10_feed_64
abbrev cX10_end : ByteArray := prog_1_method_3_code
def yX10_end : MethodName := ⟨RX10, "end", "(I)Z"⟩
theorem t540 : Cond.code yX10_end cX10_end 2 (some .boolean) ∈ GW := gw_mem 654 (by decide +kernel) (by decide +kernel)
theorem dX10_end_0 : decode cX10_end 0 = .ok (.iload_n 1, 1) := by decide +kernel
theorem dX10_end_1 : decode cX10_end 1 = .ok (.ifCond .lt 14, 3) := by decide +kernel
theorem dX10_end_15 : decode cX10_end 15 = .ok (.iconst 0, 1) := by decide +kernel
theorem dX10_end_16 : decode cX10_end 16 = .ok (.ireturn, 1) := by decide +kernel
theorem dX10_end_4 : decode cX10_end 4 = .ok (.iload_n 1, 1) := by decide +kernel
theorem dX10_end_5 : decode cX10_end 5 = .ok (.aload_n 0, 1) := by decide +kernel
theorem dX10_end_6 : decode cX10_end 6 = .ok (.getfield 10, 3) := by decide +kernel
theorem dX10_end_9 : decode cX10_end 9 = .ok (.getfield 87, 3) := by decide +kernel
theorem dX10_end_12 : decode cX10_end 12 = .ok (.if_icmp .le 5, 3) := by decide +kernel
theorem dX10_end_17 : decode cX10_end 17 = .ok (.aload_n 0, 1) := by decide +kernel
theorem dX10_end_18 : decode cX10_end 18 = .ok (.getfield 10, 3) := by decide +kernel
theorem dX10_end_21 : decode cX10_end 21 = .ok (.iload_n 1, 1) := by decide +kernel
theorem dX10_end_22 : decode cX10_end 22 = .ok (.putfield 87, 3) := by decide +kernel
theorem pf_X10_87 {p : Program} {l : Launch} {e : Env} {R : Room} {s : State} {m : MethodId} {args : Array Value} {below : List Frame} {meth : Method} {c : Code} {H : Heap} {locs : List Loc} {cells slots : Nat} {Q : State → Prop} {cc : ByteArray} {pc : Nat} {ls : Array Slot} {rest : List Value} {D : va_G} {A : Nat → Prop} {a : Nat} {tys : List (ClassId × FieldType)} {ws : va_W} {H0 : Heap} (hx : p.tables.exec = Jvm.exec) (hb : c.code = cc) (hts : ∀ w ∈ GW, w.before args s = true) (hown : s.vm.findClass RX10 = some m.cls) (hK : va_K D vwCl tys s) (hP : va_P D vwCl ws H) (hD : va_D A ws) (hS0 : va_S A H0 H locs) (q0 : Nat) {fs : List Value} (he : ws[q0]? = some (a, .inr (9, fs))) {v : Value} (hn : narrow (tyX8 2) v = v) (hfit : fits (tyX8 2) v = true) (hl : 2 < fs.length) (hdg : decode cc pc = .ok (.putfield 87, 3)) (kk : ∀ (H1 : Heap) (locs1 : List Loc), va_P D vwCl (ws.set q0 (a, .inr (9, fs.set 2 v))) H1 → va_D A (ws.set q0 (a, .inr (9, fs.set 2 v))) → va_S A H0 H1 locs1 → W p l e R s m args below meth c H1 locs1 cells slots Q (F0 m (pc + 3) ls rest)) : W p l e R s m args below meth c H locs cells slots Q (F0 m pc ls (v :: .ref a :: rest)) := va_put (C := RX8) (T := TX8) (N := 12) (ci := 9) hx hb hts inX8 tyX8 tkX8 nmX8 hown hK hP hD hS0 q0 he rfl 2 (by decide) (hts _ t96) (fun _ h => h) rfl (tkX8 2 (by decide)) hn hfit hl hdg kk
theorem dX10_end_25 : decode cX10_end 25 = .ok (.iconst 1, 1) := by decide +kernel
theorem dX10_end_26 : decode cX10_end 26 = .ok (.ireturn, 1) := by decide +kernel
set_option maxHeartbeats 4000000 in
set_option maxRecDepth 100000 in
theorem k_end (l : Launch) (dC : Nat → ClassId) (dI : Nat → Nat → Nat) (cy : Nat → ClassId) (sz : Nat) (ad : Nat → Nat) (n0 : Int32)  : Met l yX10_end (wl yX10_end cX10_end 2 (some .boolean)) ({ frames := 1, cells := 0, slots := 0, locals := 64 }) (Pw (dC, dI) vwCl cy [(ad 0, .inr (11, [.ref (ad 1), .ref (ad 4), .ref (ad 5), .ref (ad 10), .ref (ad 23), .ref (ad 24), .ref (ad 25), .ref (ad 27), .ref (ad 28), .ref (ad 29), .ref (ad 30), .ref (ad 31), .ref (ad 54), .int 0, .int (-1), .int 0, .int 0])), (ad 1, .inr (9, [.ref (ad 2), .ref (ad 3), .int 0, .int 0, .int 0, .int 0, .int 0, .int 0, .long 0, .int 0, .int 0, .int 0]))] sz [.ref (ad 0), .int n0] nE) (Qi (dC, dI) vwCl (fun (r : Int32) (u : Unit) => r = endF n0) (fun (u : Unit) => []) (va_A [(ad 0, .inr (11, [.ref (ad 1), .ref (ad 4), .ref (ad 5), .ref (ad 10), .ref (ad 23), .ref (ad 24), .ref (ad 25), .ref (ad 27), .ref (ad 28), .ref (ad 29), .ref (ad 30), .ref (ad 31), .ref (ad 54), .int 0, .int (-1), .int 0, .int 0])), (ad 1, .inr (9, [.ref (ad 2), .ref (ad 3), .int 0, .int 0, .int 0, .int 0, .int 0, .int 0, .long 0, .int 0, .int 0, .int 0]))] sz)) 0 0 (va_A [(ad 0, .inr (11, [.ref (ad 1), .ref (ad 4), .ref (ad 5), .ref (ad 10), .ref (ad 23), .ref (ad 24), .ref (ad 25), .ref (ad 27), .ref (ad 28), .ref (ad 29), .ref (ad 30), .ref (ad 31), .ref (ad 54), .int 0, .int (-1), .int 0, .int 0])), (ad 1, .inr (9, [.ref (ad 2), .ref (ad 3), .int 0, .int 0, .int 0, .int 0, .int 0, .int 0, .long 0, .int 0, .int 0, .int 0]))] sz) := by
  refine mw (Qc := Qi (dC, dI) vwCl (fun (r : Int32) (u : Unit) => r = endF n0) (fun (u : Unit) => [])) RX10 rfl (by decide +kernel) (Nat.le_of_ble_eq_true rfl) ?_
  intro p e s m below meth c A hx hb hr hlocks av9 hav hts hown hnm hml hK hP hD hA hS hE hAe Q9 hQ9 ls hl
  have hl : lv_has ls 2 [(0, .ref (ad 0)), (1, .int n0)] := hl
  refine lv_iload_n hx hb dX10_end_0 rfl (lv_at hl 1 rfl) ?_
  refine lv_if_lt (tgt := 15) hx hb dX10_end_1 (by decide) (fun c_1 => ?_) (fun c_1 => ?_)
  · skip
    refine lv_iconst (v := 0) hx hb dX10_end_15 (by decide) ?_
    rw [hQ9]
    exact re_z () hx hb hr hlocks (Or.inl rfl) (endF_lo c_1).symm (hP.sub [] rfl) (hD.sub [] rfl rfl) hS dX10_end_16
  · skip
    refine lv_iload_n hx hb dX10_end_4 rfl (lv_at hl 1 rfl) ?_
    refine lv_aload_n hx hb dX10_end_5 rfl (lv_at hl 0 rfl) ?_
    refine gf_X10_10 hx hb hts hown hK hP 0 rfl rfl dX10_end_6 ?_
    refine gf_X10_87 hx hb hts hown hK hP 1 rfl rfl dX10_end_9 ?_
    refine lv_icmp_le (tgt := 17) hx hb dX10_end_12 (by decide) (fun c_2 => ?_) (fun c_2 => ?_)
    · skip
      refine lv_aload_n hx hb dX10_end_17 rfl (lv_at hl 0 rfl) ?_
      refine gf_X10_10 hx hb hts hown hK hP 0 rfl rfl dX10_end_18 ?_
      refine lv_iload_n hx hb dX10_end_21 rfl (lv_at hl 1 rfl) ?_
      refine pf_X10_87 hx hb hts hown hK hP hD hS 1 rfl rfl rfl (Nat.le_of_ble_eq_true rfl) dX10_end_22 (fun H locs hP hD hS => ?_)
      have hP : va_P (dC, dI) vwCl [(ad 0, .inr (11, [.ref (ad 1), .ref (ad 4), .ref (ad 5), .ref (ad 10), .ref (ad 23), .ref (ad 24), .ref (ad 25), .ref (ad 27), .ref (ad 28), .ref (ad 29), .ref (ad 30), .ref (ad 31), .ref (ad 54), .int 0, .int (-1), .int 0, .int 0])), (ad 1, .inr (9, [.ref (ad 2), .ref (ad 3), .int n0, .int 0, .int 0, .int 0, .int 0, .int 0, .long 0, .int 0, .int 0, .int 0]))] H := hP
      have hD : va_D A [(ad 0, .inr (11, [.ref (ad 1), .ref (ad 4), .ref (ad 5), .ref (ad 10), .ref (ad 23), .ref (ad 24), .ref (ad 25), .ref (ad 27), .ref (ad 28), .ref (ad 29), .ref (ad 30), .ref (ad 31), .ref (ad 54), .int 0, .int (-1), .int 0, .int 0])), (ad 1, .inr (9, [.ref (ad 2), .ref (ad 3), .int n0, .int 0, .int 0, .int 0, .int 0, .int 0, .long 0, .int 0, .int 0, .int 0]))] := hD
      refine lv_iconst (v := 1) hx hb dX10_end_25 (by decide) ?_
      rw [hQ9]
      exact re_z () hx hb hr hlocks (Or.inr rfl) (endF_in c_1 c_2).symm (hP.sub [] rfl) (hD.sub [] rfl rfl) hS dX10_end_26
    · skip
      refine lv_iconst (v := 0) hx hb dX10_end_15 (by decide) ?_
      rw [hQ9]
      exact re_z () hx hb hr hlocks (Or.inl rfl) (endF_hi c_2).symm (hP.sub [] rfl) (hD.sub [] rfl rfl) hS dX10_end_16
abbrev cX1_clear : ByteArray := prog_3_method_2_code
def yX1_clear : MethodName := ⟨RX1, "clear", "()V"⟩
theorem t552 : Cond.code yX1_clear cX1_clear 2 none ∈ GW := gw_mem 666 (by decide +kernel) (by decide +kernel)
theorem dX1_clear_0 : decode cX1_clear 0 = .ok (.aload_n 0, 1) := by decide +kernel
theorem dX1_clear_1 : decode cX1_clear 1 = .ok (.iconst 0, 1) := by decide +kernel
theorem dX1_clear_2 : decode cX1_clear 2 = .ok (.putfield 36, 3) := by decide +kernel
theorem pf_X1_36 {p : Program} {l : Launch} {e : Env} {R : Room} {s : State} {m : MethodId} {args : Array Value} {below : List Frame} {meth : Method} {c : Code} {H : Heap} {locs : List Loc} {cells slots : Nat} {Q : State → Prop} {cc : ByteArray} {pc : Nat} {ls : Array Slot} {rest : List Value} {D : va_G} {A : Nat → Prop} {a : Nat} {tys : List (ClassId × FieldType)} {ws : va_W} {H0 : Heap} (hx : p.tables.exec = Jvm.exec) (hb : c.code = cc) (hts : ∀ w ∈ GW, w.before args s = true) (hown : s.vm.findClass RX1 = some m.cls) (hK : va_K D vwCl tys s) (hP : va_P D vwCl ws H) (hD : va_D A ws) (hS0 : va_S A H0 H locs) (q0 : Nat) {fs : List Value} (he : ws[q0]? = some (a, .inr (2, fs))) {v : Value} (hn : narrow (tyX1 5) v = v) (hfit : fits (tyX1 5) v = true) (hl : 5 < fs.length) (hdg : decode cc pc = .ok (.putfield 36, 3)) (kk : ∀ (H1 : Heap) (locs1 : List Loc), va_P D vwCl (ws.set q0 (a, .inr (2, fs.set 5 v))) H1 → va_D A (ws.set q0 (a, .inr (2, fs.set 5 v))) → va_S A H0 H1 locs1 → W p l e R s m args below meth c H1 locs1 cells slots Q (F0 m (pc + 3) ls rest)) : W p l e R s m args below meth c H locs cells slots Q (F0 m pc ls (v :: .ref a :: rest)) := va_put (C := RX1) (T := TX1) (N := 9) (ci := 2) hx hb hts inX1 tyX1 tkX1 nmX1 hown hK hP hD hS0 q0 he rfl 5 (by decide) (hts _ t390) (fun _ h => h) rfl (tkX1 5 (by decide)) hn hfit hl hdg kk
theorem dX1_clear_5 : decode cX1_clear 5 = .ok (.aload_n 0, 1) := by decide +kernel
theorem dX1_clear_6 : decode cX1_clear 6 = .ok (.iconst 0, 1) := by decide +kernel
theorem dX1_clear_7 : decode cX1_clear 7 = .ok (.putfield 39, 3) := by decide +kernel
theorem t396 : Cond.fieldLink RX1 39 "LikenessPound$Colony" "deeds" "I" ∈ GW := gw_mem 510 (by decide +kernel) (by decide +kernel)
theorem pf_X1_39 {p : Program} {l : Launch} {e : Env} {R : Room} {s : State} {m : MethodId} {args : Array Value} {below : List Frame} {meth : Method} {c : Code} {H : Heap} {locs : List Loc} {cells slots : Nat} {Q : State → Prop} {cc : ByteArray} {pc : Nat} {ls : Array Slot} {rest : List Value} {D : va_G} {A : Nat → Prop} {a : Nat} {tys : List (ClassId × FieldType)} {ws : va_W} {H0 : Heap} (hx : p.tables.exec = Jvm.exec) (hb : c.code = cc) (hts : ∀ w ∈ GW, w.before args s = true) (hown : s.vm.findClass RX1 = some m.cls) (hK : va_K D vwCl tys s) (hP : va_P D vwCl ws H) (hD : va_D A ws) (hS0 : va_S A H0 H locs) (q0 : Nat) {fs : List Value} (he : ws[q0]? = some (a, .inr (2, fs))) {v : Value} (hn : narrow (tyX1 6) v = v) (hfit : fits (tyX1 6) v = true) (hl : 6 < fs.length) (hdg : decode cc pc = .ok (.putfield 39, 3)) (kk : ∀ (H1 : Heap) (locs1 : List Loc), va_P D vwCl (ws.set q0 (a, .inr (2, fs.set 6 v))) H1 → va_D A (ws.set q0 (a, .inr (2, fs.set 6 v))) → va_S A H0 H1 locs1 → W p l e R s m args below meth c H1 locs1 cells slots Q (F0 m (pc + 3) ls rest)) : W p l e R s m args below meth c H locs cells slots Q (F0 m pc ls (v :: .ref a :: rest)) := va_put (C := RX1) (T := TX1) (N := 9) (ci := 2) hx hb hts inX1 tyX1 tkX1 nmX1 hown hK hP hD hS0 q0 he rfl 6 (by decide) (hts _ t396) (fun _ h => h) rfl (tkX1 6 (by decide)) hn hfit hl hdg kk
theorem dX1_clear_10 : decode cX1_clear 10 = .ok (.aload_n 0, 1) := by decide +kernel
theorem dX1_clear_11 : decode cX1_clear 11 = .ok (.bipush 60, 2) := by decide +kernel
theorem dX1_clear_13 : decode cX1_clear 13 = .ok (.putfield 29, 3) := by decide +kernel
theorem t402 : Cond.fieldLink RX1 29 "LikenessPound$Colony" "room" "I" ∈ GW := gw_mem 516 (by decide +kernel) (by decide +kernel)
theorem pf_X1_29 {p : Program} {l : Launch} {e : Env} {R : Room} {s : State} {m : MethodId} {args : Array Value} {below : List Frame} {meth : Method} {c : Code} {H : Heap} {locs : List Loc} {cells slots : Nat} {Q : State → Prop} {cc : ByteArray} {pc : Nat} {ls : Array Slot} {rest : List Value} {D : va_G} {A : Nat → Prop} {a : Nat} {tys : List (ClassId × FieldType)} {ws : va_W} {H0 : Heap} (hx : p.tables.exec = Jvm.exec) (hb : c.code = cc) (hts : ∀ w ∈ GW, w.before args s = true) (hown : s.vm.findClass RX1 = some m.cls) (hK : va_K D vwCl tys s) (hP : va_P D vwCl ws H) (hD : va_D A ws) (hS0 : va_S A H0 H locs) (q0 : Nat) {fs : List Value} (he : ws[q0]? = some (a, .inr (2, fs))) {v : Value} (hn : narrow (tyX1 7) v = v) (hfit : fits (tyX1 7) v = true) (hl : 7 < fs.length) (hdg : decode cc pc = .ok (.putfield 29, 3)) (kk : ∀ (H1 : Heap) (locs1 : List Loc), va_P D vwCl (ws.set q0 (a, .inr (2, fs.set 7 v))) H1 → va_D A (ws.set q0 (a, .inr (2, fs.set 7 v))) → va_S A H0 H1 locs1 → W p l e R s m args below meth c H1 locs1 cells slots Q (F0 m (pc + 3) ls rest)) : W p l e R s m args below meth c H locs cells slots Q (F0 m pc ls (v :: .ref a :: rest)) := va_put (C := RX1) (T := TX1) (N := 9) (ci := 2) hx hb hts inX1 tyX1 tkX1 nmX1 hown hK hP hD hS0 q0 he rfl 7 (by decide) (hts _ t402) (fun _ h => h) rfl (tkX1 7 (by decide)) hn hfit hl hdg kk
theorem dX1_clear_16 : decode cX1_clear 16 = .ok (.aload_n 0, 1) := by decide +kernel
theorem dX1_clear_17 : decode cX1_clear 17 = .ok (.bipush 10, 2) := by decide +kernel
theorem dX1_clear_19 : decode cX1_clear 19 = .ok (.putfield 33, 3) := by decide +kernel
theorem t406 : Cond.fieldLink RX1 33 "LikenessPound$Colony" "faint" "I" ∈ GW := gw_mem 520 (by decide +kernel) (by decide +kernel)
theorem pf_X1_33 {p : Program} {l : Launch} {e : Env} {R : Room} {s : State} {m : MethodId} {args : Array Value} {below : List Frame} {meth : Method} {c : Code} {H : Heap} {locs : List Loc} {cells slots : Nat} {Q : State → Prop} {cc : ByteArray} {pc : Nat} {ls : Array Slot} {rest : List Value} {D : va_G} {A : Nat → Prop} {a : Nat} {tys : List (ClassId × FieldType)} {ws : va_W} {H0 : Heap} (hx : p.tables.exec = Jvm.exec) (hb : c.code = cc) (hts : ∀ w ∈ GW, w.before args s = true) (hown : s.vm.findClass RX1 = some m.cls) (hK : va_K D vwCl tys s) (hP : va_P D vwCl ws H) (hD : va_D A ws) (hS0 : va_S A H0 H locs) (q0 : Nat) {fs : List Value} (he : ws[q0]? = some (a, .inr (2, fs))) {v : Value} (hn : narrow (tyX1 8) v = v) (hfit : fits (tyX1 8) v = true) (hl : 8 < fs.length) (hdg : decode cc pc = .ok (.putfield 33, 3)) (kk : ∀ (H1 : Heap) (locs1 : List Loc), va_P D vwCl (ws.set q0 (a, .inr (2, fs.set 8 v))) H1 → va_D A (ws.set q0 (a, .inr (2, fs.set 8 v))) → va_S A H0 H1 locs1 → W p l e R s m args below meth c H1 locs1 cells slots Q (F0 m (pc + 3) ls rest)) : W p l e R s m args below meth c H locs cells slots Q (F0 m pc ls (v :: .ref a :: rest)) := va_put (C := RX1) (T := TX1) (N := 9) (ci := 2) hx hb hts inX1 tyX1 tkX1 nmX1 hown hK hP hD hS0 q0 he rfl 8 (by decide) (hts _ t406) (fun _ h => h) rfl (tkX1 8 (by decide)) hn hfit hl hdg kk
theorem dX1_clear_22 : decode cX1_clear 22 = .ok (.iconst 0, 1) := by decide +kernel
theorem dX1_clear_23 : decode cX1_clear 23 = .ok (.istore_n 1, 1) := by decide +kernel
theorem dX1_clear_24 : decode cX1_clear 24 = .ok (.iload_n 1, 1) := by decide +kernel
theorem dX1_clear_25 : decode cX1_clear 25 = .ok (.bipush 7, 2) := by decide +kernel
theorem dX1_clear_27 : decode cX1_clear 27 = .ok (.if_icmp .ge 16, 3) := by decide +kernel
theorem dX1_clear_43 : decode cX1_clear 43 = .ok (.return_, 1) := by decide +kernel
theorem dX1_clear_30 : decode cX1_clear 30 = .ok (.aload_n 0, 1) := by decide +kernel
theorem dX1_clear_31 : decode cX1_clear 31 = .ok (.getfield 26, 3) := by decide +kernel
theorem t387 : Cond.fieldLink RX1 26 "LikenessPound$Colony" "kin" "[I" ∈ GW := gw_mem 501 (by decide +kernel) (by decide +kernel)
theorem gf_X1_26 {p : Program} {l : Launch} {e : Env} {R : Room} {s : State} {m : MethodId} {args : Array Value} {below : List Frame} {meth : Method} {c : Code} {H : Heap} {locs : List Loc} {cells slots : Nat} {Q : State → Prop} {cc : ByteArray} {pc : Nat} {ls : Array Slot} {rest : List Value} {D : va_G} {a : Nat} {tys : List (ClassId × FieldType)} {ws : va_W} (hx : p.tables.exec = Jvm.exec) (hb : c.code = cc) (hts : ∀ w ∈ GW, w.before args s = true) (hown : s.vm.findClass RX1 = some m.cls) (hK : va_K D vwCl tys s) (hP : va_P D vwCl ws H) (q0 : Nat) {fs : List Value} (he : ws[q0]? = some (a, .inr (2, fs))) {v : Value} (hv : fs[4]? = some v) (hdg : decode cc pc = .ok (.getfield 26, 3)) (kk : W p l e R s m args below meth c H locs cells slots Q (F0 m (pc + 3) ls (v :: rest))) : W p l e R s m args below meth c H locs cells slots Q (F0 m pc ls (.ref a :: rest)) := va_get (C := RX1) (T := TX1) (N := 9) (ci := 2) hx hb hts inX1 hown hK hP q0 he rfl 4 (by decide) (hts _ t387) (fun _ h => h) hv hdg kk
theorem dX1_clear_34 : decode cX1_clear 34 = .ok (.iload_n 1, 1) := by decide +kernel
theorem dX1_clear_35 : decode cX1_clear 35 = .ok (.iconst 0, 1) := by decide +kernel
theorem dX1_clear_36 : decode cX1_clear 36 = .ok (.iastore, 1) := by decide +kernel
theorem dX1_clear_37 : decode cX1_clear 37 = .ok (.iinc 1 1, 3) := by decide +kernel
theorem dX1_clear_40 : decode cX1_clear 40 = .ok (.goto (-16), 3) := by decide +kernel
set_option maxHeartbeats 4000000 in
set_option maxRecDepth 100000 in
theorem c_Col_clear (l : Launch) (dC : Nat → ClassId) (dI : Nat → Nat → Nat) (cy : Nat → ClassId) (sz : Nat) (h0 : Nat) (a1 : Nat) (a2 : Nat) (a3 : Nat) (a4 : Nat) (a5 : Nat) (xm : Int32) (xd : Int32) (xr : Int32) (xf : Int32) (fk : Nat → Int32)  : Met l yX1_clear (wl yX1_clear cX1_clear 2 none) ({ frames := 0, cells := 0, slots := 0, locals := 0 }) (Pw (dC, dI) vwCl cy [(h0, .inr (2, [.ref a1, .ref a2, .ref a3, .ref a4, .ref a5, .int xm, .int xd, .int xr, .int xf])), (a5, .inl (cy 0, 7, .inl fk))] sz [.ref h0] nE) (Qv (dC, dI) vwCl (fun (u : (Nat → Int32)) => True) (fun (u : (Nat → Int32)) => [(h0, .inr (2, [.ref a1, .ref a2, .ref a3, .ref a4, .ref a5, .int 0, .int 0, .int 60, .int 10])), (a5, .inl (cy 0, 7, .inl u))]) (va_A [(h0, .inr (2, [.ref a1, .ref a2, .ref a3, .ref a4, .ref a5, .int xm, .int xd, .int xr, .int xf])), (a5, .inl (cy 0, 7, .inl fk))] sz)) 0 0 (va_A [(h0, .inr (2, [.ref a1, .ref a2, .ref a3, .ref a4, .ref a5, .int xm, .int xd, .int xr, .int xf])), (a5, .inl (cy 0, 7, .inl fk))] sz) := by
  refine mw (Qc := Qv (dC, dI) vwCl (fun (u : (Nat → Int32)) => True) (fun (u : (Nat → Int32)) => [(h0, .inr (2, [.ref a1, .ref a2, .ref a3, .ref a4, .ref a5, .int 0, .int 0, .int 60, .int 10])), (a5, .inl (cy 0, 7, .inl u))])) RX1 rfl (by decide +kernel) (Nat.le_of_ble_eq_true rfl) ?_
  intro p e s m below meth c A hx hb hr hlocks av9 hav hts hown hnm hml hK hP hD hA hS hE hAe Q9 hQ9 ls hl
  have hl : lv_has ls 2 [(0, .ref h0)] := hl
  refine lv_aload_n hx hb dX1_clear_0 rfl (lv_at hl 0 rfl) ?_
  refine lv_iconst (v := 0) hx hb dX1_clear_1 (by decide) ?_
  refine pf_X1_36 hx hb hts hown hK hP hD hS 0 rfl rfl rfl (Nat.le_of_ble_eq_true rfl) dX1_clear_2 (fun H locs hP hD hS => ?_)
  have hP : va_P (dC, dI) vwCl [(h0, .inr (2, [.ref a1, .ref a2, .ref a3, .ref a4, .ref a5, .int 0, .int xd, .int xr, .int xf])), (a5, .inl (cy 0, 7, .inl fk))] H := hP
  have hD : va_D A [(h0, .inr (2, [.ref a1, .ref a2, .ref a3, .ref a4, .ref a5, .int 0, .int xd, .int xr, .int xf])), (a5, .inl (cy 0, 7, .inl fk))] := hD
  refine lv_aload_n hx hb dX1_clear_5 rfl (lv_at hl 0 rfl) ?_
  refine lv_iconst (v := 0) hx hb dX1_clear_6 (by decide) ?_
  refine pf_X1_39 hx hb hts hown hK hP hD hS 0 rfl rfl rfl (Nat.le_of_ble_eq_true rfl) dX1_clear_7 (fun H locs hP hD hS => ?_)
  have hP : va_P (dC, dI) vwCl [(h0, .inr (2, [.ref a1, .ref a2, .ref a3, .ref a4, .ref a5, .int 0, .int 0, .int xr, .int xf])), (a5, .inl (cy 0, 7, .inl fk))] H := hP
  have hD : va_D A [(h0, .inr (2, [.ref a1, .ref a2, .ref a3, .ref a4, .ref a5, .int 0, .int 0, .int xr, .int xf])), (a5, .inl (cy 0, 7, .inl fk))] := hD
  refine lv_aload_n hx hb dX1_clear_10 rfl (lv_at hl 0 rfl) ?_
  refine lv_bipush (v := 60) hx hb dX1_clear_11 (by decide) ?_
  refine pf_X1_29 hx hb hts hown hK hP hD hS 0 rfl rfl rfl (Nat.le_of_ble_eq_true rfl) dX1_clear_13 (fun H locs hP hD hS => ?_)
  have hP : va_P (dC, dI) vwCl [(h0, .inr (2, [.ref a1, .ref a2, .ref a3, .ref a4, .ref a5, .int 0, .int 0, .int 60, .int xf])), (a5, .inl (cy 0, 7, .inl fk))] H := hP
  have hD : va_D A [(h0, .inr (2, [.ref a1, .ref a2, .ref a3, .ref a4, .ref a5, .int 0, .int 0, .int 60, .int xf])), (a5, .inl (cy 0, 7, .inl fk))] := hD
  refine lv_aload_n hx hb dX1_clear_16 rfl (lv_at hl 0 rfl) ?_
  refine lv_bipush (v := 10) hx hb dX1_clear_17 (by decide) ?_
  refine pf_X1_33 hx hb hts hown hK hP hD hS 0 rfl rfl rfl (Nat.le_of_ble_eq_true rfl) dX1_clear_19 (fun H locs hP hD hS => ?_)
  have hP : va_P (dC, dI) vwCl [(h0, .inr (2, [.ref a1, .ref a2, .ref a3, .ref a4, .ref a5, .int 0, .int 0, .int 60, .int 10])), (a5, .inl (cy 0, 7, .inl fk))] H := hP
  have hD : va_D A [(h0, .inr (2, [.ref a1, .ref a2, .ref a3, .ref a4, .ref a5, .int 0, .int 0, .int 60, .int 10])), (a5, .inl (cy 0, 7, .inl fk))] := hD
  refine lv_iconst (v := 0) hx hb dX1_clear_22 (by decide) ?_
  refine lv_istore_n (lv' := [(1, .int 0), (0, .ref h0)]) hx hb dX1_clear_23 rfl hl (by decide) rfl (fun ls hl => ?_)
  have loop1 : ∀ (n1_ i1 : Nat) (g_2 : Nat → Int32) , i1 + n1_ = 7 → ∀ (H : Heap) (locs : List Loc), va_P (dC, dI) vwCl [(h0, .inr (2, [.ref a1, .ref a2, .ref a3, .ref a4, .ref a5, .int 0, .int 0, .int 60, .int 10])), (a5, .inl (cy 0, 7, .inl g_2))] H → va_D A [(h0, .inr (2, [.ref a1, .ref a2, .ref a3, .ref a4, .ref a5, .int 0, .int 0, .int 60, .int 10])), (a5, .inl (cy 0, 7, .inl g_2))] → va_S A s.heap H locs → ∀ ls : Array Slot, lv_has ls 2 [(0, .ref h0), (1, .int (nI i1))] → W p l e ({ frames := 0, cells := 0, slots := 0, locals := 0 }) s m av9 below meth c H locs 0 0 Q9 (F0 m 24 ls []) := by
    intro n1_
    induction n1_ with
    | zero =>
      intro i1 g_2  hn1 H locs hP hD hS ls hl
      obtain rfl : i1 = 7 := by omega
      have hl : lv_has ls 2 [(0, .ref h0), (1, .int 7)] := hl
      refine lv_iload_n hx hb dX1_clear_24 rfl (lv_at hl 1 rfl) ?_
      refine lv_bipush (v := 7) hx hb dX1_clear_25 (by decide) ?_
      refine lv_icmp_ge (tgt := 43) hx hb dX1_clear_27 (by decide) (fun _ => ?_) (fun c9 => absurd (by decide) c9)
      rw [hQ9]
      exact re_v g_2 hx hb hr hlocks trivial (hP.sub [0, 1] rfl) (hD.sub [0, 1] rfl rfl) hS dX1_clear_43
    | succ n1_ ih1 =>
      intro i1 g_2  hn1 H locs hP hD hS ls hl
      refine lv_iload_n hx hb dX1_clear_24 rfl (lv_at hl 1 rfl) ?_
      refine lv_bipush (v := 7) hx hb dX1_clear_25 (by decide) ?_
      refine lv_icmp_ge (tgt := 43) hx hb dX1_clear_27 (by decide) (fun c9 => absurd c9 (nI_ge (a := i1) (b := 7) (by omega) (by decide))) (fun _ => ?_)
      refine lv_aload_n hx hb dX1_clear_30 rfl (lv_at hl 0 rfl) ?_
      refine gf_X1_26 hx hb hts hown hK hP 0 rfl rfl dX1_clear_31 ?_
      refine lv_iload_n hx hb dX1_clear_34 rfl (lv_at hl 1 rfl) ?_
      refine lv_iconst (v := 0) hx hb dX1_clear_35 (by decide) ?_
      refine va_iast hx hb hK hP hD hS 1 0 rfl rfl (vp_in_nI (n := i1) (N := 7) (by omega) (by omega)) dX1_clear_36 (fun H locs hP hD hS => ?_)
      obtain ⟨f_3, ef_3⟩ : ∃ z : Nat → Int32, z = upd g_2 (Int32.toNatClampNeg (nI i1)) 0 := ⟨_, rfl⟩
      have hP : va_P (dC, dI) vwCl [(h0, .inr (2, [.ref a1, .ref a2, .ref a3, .ref a4, .ref a5, .int 0, .int 0, .int 60, .int 10])), (a5, .inl (cy 0, 7, .inl f_3))] H := by rw [ef_3]; exact hP
      have hD : va_D A [(h0, .inr (2, [.ref a1, .ref a2, .ref a3, .ref a4, .ref a5, .int 0, .int 0, .int 60, .int 10])), (a5, .inl (cy 0, 7, .inl f_3))] := by rw [ef_3]; exact hD
      rw [(nI_clamp (n := i1) (by omega))] at ef_3
      refine lv_iinc (v := nI (i1 + 1)) (lv' := [(1, .int (nI (i1 + 1))), (0, .ref h0)]) hx hb dX1_clear_37 hl (k := 1) rfl (nI_add i1 1) (by decide) rfl (fun ls hl => ?_)
      refine lv_goto (tgt := 24) hx hb dX1_clear_40 (by decide) ?_
      exact ih1 (i1 + 1) f_3  (by omega) _ _ (hP.sub [0, 1] rfl) (hD.sub [0, 1] rfl rfl) hS ls (lv_sub hl [1, 0] rfl)
  exact loop1 7 0 fk  (by omega) _ _ hP hD hS ls (lv_sub hl [1, 0] rfl)
abbrev cX8_advance : ByteArray := prog_10_method_4_code
def yX8_advance : MethodName := ⟨RX8, "advance", "()V"⟩
theorem t561 : Cond.code yX8_advance cX8_advance 1 none ∈ GW := gw_mem 675 (by decide +kernel) (by decide +kernel)
theorem dX8_advance_0 : decode cX8_advance 0 = .ok (.aload_n 0, 1) := by decide +kernel
theorem dX8_advance_1 : decode cX8_advance 1 = .ok (.getfield 39, 3) := by decide +kernel
theorem t99 : Cond.fieldLink RX8 39 "LikenessPound$Tape" "at" "I" ∈ GW := gw_mem 213 (by decide +kernel) (by decide +kernel)
theorem gf_X8_39 {p : Program} {l : Launch} {e : Env} {R : Room} {s : State} {m : MethodId} {args : Array Value} {below : List Frame} {meth : Method} {c : Code} {H : Heap} {locs : List Loc} {cells slots : Nat} {Q : State → Prop} {cc : ByteArray} {pc : Nat} {ls : Array Slot} {rest : List Value} {D : va_G} {a : Nat} {tys : List (ClassId × FieldType)} {ws : va_W} (hx : p.tables.exec = Jvm.exec) (hb : c.code = cc) (hts : ∀ w ∈ GW, w.before args s = true) (hown : s.vm.findClass RX8 = some m.cls) (hK : va_K D vwCl tys s) (hP : va_P D vwCl ws H) (q0 : Nat) {fs : List Value} (he : ws[q0]? = some (a, .inr (9, fs))) {v : Value} (hv : fs[4]? = some v) (hdg : decode cc pc = .ok (.getfield 39, 3)) (kk : W p l e R s m args below meth c H locs cells slots Q (F0 m (pc + 3) ls (v :: rest))) : W p l e R s m args below meth c H locs cells slots Q (F0 m pc ls (.ref a :: rest)) := va_get (C := RX8) (T := TX8) (N := 12) (ci := 9) hx hb hts inX8 hown hK hP q0 he rfl 4 (by decide) (hts _ t99) (fun _ h => h) hv hdg kk
theorem dX8_advance_4 : decode cX8_advance 4 = .ok (.aload_n 0, 1) := by decide +kernel
theorem dX8_advance_5 : decode cX8_advance 5 = .ok (.getfield 33, 3) := by decide +kernel
theorem dX8_advance_8 : decode cX8_advance 8 = .ok (.if_icmp .ge 44, 3) := by decide +kernel
theorem dX8_advance_52 : decode cX8_advance 52 = .ok (.aload_n 0, 1) := by decide +kernel
theorem dX8_advance_53 : decode cX8_advance 53 = .ok (.aload_n 0, 1) := by decide +kernel
theorem dX8_advance_54 : decode cX8_advance 54 = .ok (.getfield 39, 3) := by decide +kernel
theorem dX8_advance_57 : decode cX8_advance 57 = .ok (.putfield 51, 3) := by decide +kernel
theorem t104 : Cond.fieldLink RX8 51 "LikenessPound$Tape" "start" "I" ∈ GW := gw_mem 218 (by decide +kernel) (by decide +kernel)
theorem pf_X8_51 {p : Program} {l : Launch} {e : Env} {R : Room} {s : State} {m : MethodId} {args : Array Value} {below : List Frame} {meth : Method} {c : Code} {H : Heap} {locs : List Loc} {cells slots : Nat} {Q : State → Prop} {cc : ByteArray} {pc : Nat} {ls : Array Slot} {rest : List Value} {D : va_G} {A : Nat → Prop} {a : Nat} {tys : List (ClassId × FieldType)} {ws : va_W} {H0 : Heap} (hx : p.tables.exec = Jvm.exec) (hb : c.code = cc) (hts : ∀ w ∈ GW, w.before args s = true) (hown : s.vm.findClass RX8 = some m.cls) (hK : va_K D vwCl tys s) (hP : va_P D vwCl ws H) (hD : va_D A ws) (hS0 : va_S A H0 H locs) (q0 : Nat) {fs : List Value} (he : ws[q0]? = some (a, .inr (9, fs))) {v : Value} (hn : narrow (tyX8 6) v = v) (hfit : fits (tyX8 6) v = true) (hl : 6 < fs.length) (hdg : decode cc pc = .ok (.putfield 51, 3)) (kk : ∀ (H1 : Heap) (locs1 : List Loc), va_P D vwCl (ws.set q0 (a, .inr (9, fs.set 6 v))) H1 → va_D A (ws.set q0 (a, .inr (9, fs.set 6 v))) → va_S A H0 H1 locs1 → W p l e R s m args below meth c H1 locs1 cells slots Q (F0 m (pc + 3) ls rest)) : W p l e R s m args below meth c H locs cells slots Q (F0 m pc ls (v :: .ref a :: rest)) := va_put (C := RX8) (T := TX8) (N := 12) (ci := 9) hx hb hts inX8 tyX8 tkX8 nmX8 hown hK hP hD hS0 q0 he rfl 6 (by decide) (hts _ t104) (fun _ h => h) rfl (tkX8 6 (by decide)) hn hfit hl hdg kk
theorem dX8_advance_60 : decode cX8_advance 60 = .ok (.aload_n 0, 1) := by decide +kernel
theorem dX8_advance_61 : decode cX8_advance 61 = .ok (.iconst (-1), 1) := by decide +kernel
theorem dX8_advance_62 : decode cX8_advance 62 = .ok (.putfield 54, 3) := by decide +kernel
theorem t107 : Cond.fieldLink RX8 54 "LikenessPound$Tape" "word" "I" ∈ GW := gw_mem 221 (by decide +kernel) (by decide +kernel)
theorem pf_X8_54 {p : Program} {l : Launch} {e : Env} {R : Room} {s : State} {m : MethodId} {args : Array Value} {below : List Frame} {meth : Method} {c : Code} {H : Heap} {locs : List Loc} {cells slots : Nat} {Q : State → Prop} {cc : ByteArray} {pc : Nat} {ls : Array Slot} {rest : List Value} {D : va_G} {A : Nat → Prop} {a : Nat} {tys : List (ClassId × FieldType)} {ws : va_W} {H0 : Heap} (hx : p.tables.exec = Jvm.exec) (hb : c.code = cc) (hts : ∀ w ∈ GW, w.before args s = true) (hown : s.vm.findClass RX8 = some m.cls) (hK : va_K D vwCl tys s) (hP : va_P D vwCl ws H) (hD : va_D A ws) (hS0 : va_S A H0 H locs) (q0 : Nat) {fs : List Value} (he : ws[q0]? = some (a, .inr (9, fs))) {v : Value} (hn : narrow (tyX8 7) v = v) (hfit : fits (tyX8 7) v = true) (hl : 7 < fs.length) (hdg : decode cc pc = .ok (.putfield 54, 3)) (kk : ∀ (H1 : Heap) (locs1 : List Loc), va_P D vwCl (ws.set q0 (a, .inr (9, fs.set 7 v))) H1 → va_D A (ws.set q0 (a, .inr (9, fs.set 7 v))) → va_S A H0 H1 locs1 → W p l e R s m args below meth c H1 locs1 cells slots Q (F0 m (pc + 3) ls rest)) : W p l e R s m args below meth c H locs cells slots Q (F0 m pc ls (v :: .ref a :: rest)) := va_put (C := RX8) (T := TX8) (N := 12) (ci := 9) hx hb hts inX8 tyX8 tkX8 nmX8 hown hK hP hD hS0 q0 he rfl 7 (by decide) (hts _ t107) (fun _ h => h) rfl (tkX8 7 (by decide)) hn hfit hl hdg kk
theorem dX8_advance_65 : decode cX8_advance 65 = .ok (.aload_n 0, 1) := by decide +kernel
theorem dX8_advance_66 : decode cX8_advance 66 = .ok (.getfield 33, 3) := by decide +kernel
theorem dX8_advance_69 : decode cX8_advance 69 = .ok (.aload_n 0, 1) := by decide +kernel
theorem dX8_advance_70 : decode cX8_advance 70 = .ok (.getfield 36, 3) := by decide +kernel
theorem t98 : Cond.fieldLink RX8 36 "LikenessPound$Tape" "limit" "I" ∈ GW := gw_mem 212 (by decide +kernel) (by decide +kernel)
theorem gf_X8_36 {p : Program} {l : Launch} {e : Env} {R : Room} {s : State} {m : MethodId} {args : Array Value} {below : List Frame} {meth : Method} {c : Code} {H : Heap} {locs : List Loc} {cells slots : Nat} {Q : State → Prop} {cc : ByteArray} {pc : Nat} {ls : Array Slot} {rest : List Value} {D : va_G} {a : Nat} {tys : List (ClassId × FieldType)} {ws : va_W} (hx : p.tables.exec = Jvm.exec) (hb : c.code = cc) (hts : ∀ w ∈ GW, w.before args s = true) (hown : s.vm.findClass RX8 = some m.cls) (hK : va_K D vwCl tys s) (hP : va_P D vwCl ws H) (q0 : Nat) {fs : List Value} (he : ws[q0]? = some (a, .inr (9, fs))) {v : Value} (hv : fs[3]? = some v) (hdg : decode cc pc = .ok (.getfield 36, 3)) (kk : W p l e R s m args below meth c H locs cells slots Q (F0 m (pc + 3) ls (v :: rest))) : W p l e R s m args below meth c H locs cells slots Q (F0 m pc ls (.ref a :: rest)) := va_get (C := RX8) (T := TX8) (N := 12) (ci := 9) hx hb hts inX8 hown hK hP q0 he rfl 3 (by decide) (hts _ t98) (fun _ h => h) hv hdg kk
theorem dX8_advance_73 : decode cX8_advance 73 = .ok (.if_icmp .le 30, 3) := by decide +kernel
theorem dX8_advance_103 : decode cX8_advance 103 = .ok (.aload_n 0, 1) := by decide +kernel
theorem dX8_advance_104 : decode cX8_advance 104 = .ok (.getfield 39, 3) := by decide +kernel
theorem dX8_advance_107 : decode cX8_advance 107 = .ok (.aload_n 0, 1) := by decide +kernel
theorem dX8_advance_108 : decode cX8_advance 108 = .ok (.getfield 33, 3) := by decide +kernel
theorem dX8_advance_111 : decode cX8_advance 111 = .ok (.if_icmp .lt 11, 3) := by decide +kernel
theorem dX8_advance_114 : decode cX8_advance 114 = .ok (.aload_n 0, 1) := by decide +kernel
theorem dX8_advance_115 : decode cX8_advance 115 = .ok (.iconst 3, 1) := by decide +kernel
theorem dX8_advance_116 : decode cX8_advance 116 = .ok (.putfield 57, 3) := by decide +kernel
theorem t103 : Cond.fieldLink RX8 57 "LikenessPound$Tape" "kind" "I" ∈ GW := gw_mem 217 (by decide +kernel) (by decide +kernel)
theorem pf_X8_57 {p : Program} {l : Launch} {e : Env} {R : Room} {s : State} {m : MethodId} {args : Array Value} {below : List Frame} {meth : Method} {c : Code} {H : Heap} {locs : List Loc} {cells slots : Nat} {Q : State → Prop} {cc : ByteArray} {pc : Nat} {ls : Array Slot} {rest : List Value} {D : va_G} {A : Nat → Prop} {a : Nat} {tys : List (ClassId × FieldType)} {ws : va_W} {H0 : Heap} (hx : p.tables.exec = Jvm.exec) (hb : c.code = cc) (hts : ∀ w ∈ GW, w.before args s = true) (hown : s.vm.findClass RX8 = some m.cls) (hK : va_K D vwCl tys s) (hP : va_P D vwCl ws H) (hD : va_D A ws) (hS0 : va_S A H0 H locs) (q0 : Nat) {fs : List Value} (he : ws[q0]? = some (a, .inr (9, fs))) {v : Value} (hn : narrow (tyX8 5) v = v) (hfit : fits (tyX8 5) v = true) (hl : 5 < fs.length) (hdg : decode cc pc = .ok (.putfield 57, 3)) (kk : ∀ (H1 : Heap) (locs1 : List Loc), va_P D vwCl (ws.set q0 (a, .inr (9, fs.set 5 v))) H1 → va_D A (ws.set q0 (a, .inr (9, fs.set 5 v))) → va_S A H0 H1 locs1 → W p l e R s m args below meth c H1 locs1 cells slots Q (F0 m (pc + 3) ls rest)) : W p l e R s m args below meth c H locs cells slots Q (F0 m pc ls (v :: .ref a :: rest)) := va_put (C := RX8) (T := TX8) (N := 12) (ci := 9) hx hb hts inX8 tyX8 tkX8 nmX8 hown hK hP hD hS0 q0 he rfl 5 (by decide) (hts _ t103) (fun _ h => h) rfl (tkX8 5 (by decide)) hn hfit hl hdg kk
theorem dX8_advance_119 : decode cX8_advance 119 = .ok (.goto 87, 3) := by decide +kernel
theorem dX8_advance_206 : decode cX8_advance 206 = .ok (.return_, 1) := by decide +kernel
set_option maxHeartbeats 4000000 in
set_option maxRecDepth 100000 in
theorem k_advance900 (l : Launch) (dC : Nat → ClassId) (dI : Nat → Nat → Nat) (cy : Nat → ClassId) (sz : Nat) (ad : Nat → Nat)  : Met l yX8_advance (wl yX8_advance cX8_advance 1 none) ({ frames := 1, cells := 0, slots := 0, locals := 64 }) (Pw (dC, dI) vwCl cy [(ad 1, .inr (9, [.ref (ad 2), .ref (ad 3), .int 0, .int 900, .int 0, .int 0, .int 0, .int 0, .long 0, .int 0, .int 0, .int 0]))] sz [.ref (ad 1)] nE) (Qv (dC, dI) vwCl (fun (u : Unit) => True) (fun (u : Unit) => [(ad 1, .inr (9, [.ref (ad 2), .ref (ad 3), .int 0, .int 900, .int 0, .int 3, .int 0, .int (-1), .long 0, .int 0, .int 0, .int 0]))]) (va_A [(ad 1, .inr (9, [.ref (ad 2), .ref (ad 3), .int 0, .int 900, .int 0, .int 0, .int 0, .int 0, .long 0, .int 0, .int 0, .int 0]))] sz)) 0 0 (va_A [(ad 1, .inr (9, [.ref (ad 2), .ref (ad 3), .int 0, .int 900, .int 0, .int 0, .int 0, .int 0, .long 0, .int 0, .int 0, .int 0]))] sz) := by
  refine mw (Qc := Qv (dC, dI) vwCl (fun (u : Unit) => True) (fun (u : Unit) => [(ad 1, .inr (9, [.ref (ad 2), .ref (ad 3), .int 0, .int 900, .int 0, .int 3, .int 0, .int (-1), .long 0, .int 0, .int 0, .int 0]))])) RX8 rfl (by decide +kernel) (Nat.le_of_ble_eq_true rfl) ?_
  intro p e s m below meth c A hx hb hr hlocks av9 hav hts hown hnm hml hK hP hD hA hS hE hAe Q9 hQ9 ls hl
  have hl : lv_has ls 1 [(0, .ref (ad 1))] := hl
  refine lv_aload_n hx hb dX8_advance_0 rfl (lv_at hl 0 rfl) ?_
  refine gf_X8_39 hx hb hts hown hK hP 0 rfl rfl dX8_advance_1 ?_
  refine lv_aload_n hx hb dX8_advance_4 rfl (lv_at hl 0 rfl) ?_
  refine gf_X8_33 hx hb hts hown hK hP 0 rfl rfl dX8_advance_5 ?_
  refine lv_icmp_ge (tgt := 52) hx hb dX8_advance_8 (by decide) (fun _ => ?_) (fun c9 => absurd (by decide) c9)
  refine lv_aload_n hx hb dX8_advance_52 rfl (lv_at hl 0 rfl) ?_
  refine lv_aload_n hx hb dX8_advance_53 rfl (lv_at hl 0 rfl) ?_
  refine gf_X8_39 hx hb hts hown hK hP 0 rfl rfl dX8_advance_54 ?_
  refine pf_X8_51 hx hb hts hown hK hP hD hS 0 rfl rfl rfl (Nat.le_of_ble_eq_true rfl) dX8_advance_57 (fun H locs hP hD hS => ?_)
  have hP : va_P (dC, dI) vwCl [(ad 1, .inr (9, [.ref (ad 2), .ref (ad 3), .int 0, .int 900, .int 0, .int 0, .int 0, .int 0, .long 0, .int 0, .int 0, .int 0]))] H := hP
  have hD : va_D A [(ad 1, .inr (9, [.ref (ad 2), .ref (ad 3), .int 0, .int 900, .int 0, .int 0, .int 0, .int 0, .long 0, .int 0, .int 0, .int 0]))] := hD
  refine lv_aload_n hx hb dX8_advance_60 rfl (lv_at hl 0 rfl) ?_
  refine lv_iconst (v := (-1)) hx hb dX8_advance_61 (by decide) ?_
  refine pf_X8_54 hx hb hts hown hK hP hD hS 0 rfl rfl rfl (Nat.le_of_ble_eq_true rfl) dX8_advance_62 (fun H locs hP hD hS => ?_)
  have hP : va_P (dC, dI) vwCl [(ad 1, .inr (9, [.ref (ad 2), .ref (ad 3), .int 0, .int 900, .int 0, .int 0, .int 0, .int (-1), .long 0, .int 0, .int 0, .int 0]))] H := hP
  have hD : va_D A [(ad 1, .inr (9, [.ref (ad 2), .ref (ad 3), .int 0, .int 900, .int 0, .int 0, .int 0, .int (-1), .long 0, .int 0, .int 0, .int 0]))] := hD
  refine lv_aload_n hx hb dX8_advance_65 rfl (lv_at hl 0 rfl) ?_
  refine gf_X8_33 hx hb hts hown hK hP 0 rfl rfl dX8_advance_66 ?_
  refine lv_aload_n hx hb dX8_advance_69 rfl (lv_at hl 0 rfl) ?_
  refine gf_X8_36 hx hb hts hown hK hP 0 rfl rfl dX8_advance_70 ?_
  refine lv_icmp_le (tgt := 103) hx hb dX8_advance_73 (by decide) (fun _ => ?_) (fun c9 => absurd (by decide) c9)
  refine lv_aload_n hx hb dX8_advance_103 rfl (lv_at hl 0 rfl) ?_
  refine gf_X8_39 hx hb hts hown hK hP 0 rfl rfl dX8_advance_104 ?_
  refine lv_aload_n hx hb dX8_advance_107 rfl (lv_at hl 0 rfl) ?_
  refine gf_X8_33 hx hb hts hown hK hP 0 rfl rfl dX8_advance_108 ?_
  refine lv_icmp_lt (tgt := 122) hx hb dX8_advance_111 (by decide) (fun c9 => absurd c9 (by decide)) (fun _ => ?_)
  refine lv_aload_n hx hb dX8_advance_114 rfl (lv_at hl 0 rfl) ?_
  refine lv_iconst (v := 3) hx hb dX8_advance_115 (by decide) ?_
  refine pf_X8_57 hx hb hts hown hK hP hD hS 0 rfl rfl rfl (Nat.le_of_ble_eq_true rfl) dX8_advance_116 (fun H locs hP hD hS => ?_)
  have hP : va_P (dC, dI) vwCl [(ad 1, .inr (9, [.ref (ad 2), .ref (ad 3), .int 0, .int 900, .int 0, .int 3, .int 0, .int (-1), .long 0, .int 0, .int 0, .int 0]))] H := hP
  have hD : va_D A [(ad 1, .inr (9, [.ref (ad 2), .ref (ad 3), .int 0, .int 900, .int 0, .int 3, .int 0, .int (-1), .long 0, .int 0, .int 0, .int 0]))] := hD
  refine lv_goto (tgt := 206) hx hb dX8_advance_119 (by decide) ?_
  rw [hQ9]
  exact re_v () hx hb hr hlocks trivial (hP.sub [0] rfl) (hD.sub [0] rfl rfl) hS dX8_advance_206
abbrev cX8_open : ByteArray := prog_10_method_3_code
def yX8_open : MethodName := ⟨RX8, "open", "(I)V"⟩
theorem t557 : Cond.code yX8_open cX8_open 2 none ∈ GW := gw_mem 671 (by decide +kernel) (by decide +kernel)
theorem dX8_open_0 : decode cX8_open 0 = .ok (.aload_n 0, 1) := by decide +kernel
theorem dX8_open_1 : decode cX8_open 1 = .ok (.iload_n 1, 1) := by decide +kernel
theorem dX8_open_2 : decode cX8_open 2 = .ok (.putfield 36, 3) := by decide +kernel
theorem pf_X8_36 {p : Program} {l : Launch} {e : Env} {R : Room} {s : State} {m : MethodId} {args : Array Value} {below : List Frame} {meth : Method} {c : Code} {H : Heap} {locs : List Loc} {cells slots : Nat} {Q : State → Prop} {cc : ByteArray} {pc : Nat} {ls : Array Slot} {rest : List Value} {D : va_G} {A : Nat → Prop} {a : Nat} {tys : List (ClassId × FieldType)} {ws : va_W} {H0 : Heap} (hx : p.tables.exec = Jvm.exec) (hb : c.code = cc) (hts : ∀ w ∈ GW, w.before args s = true) (hown : s.vm.findClass RX8 = some m.cls) (hK : va_K D vwCl tys s) (hP : va_P D vwCl ws H) (hD : va_D A ws) (hS0 : va_S A H0 H locs) (q0 : Nat) {fs : List Value} (he : ws[q0]? = some (a, .inr (9, fs))) {v : Value} (hn : narrow (tyX8 3) v = v) (hfit : fits (tyX8 3) v = true) (hl : 3 < fs.length) (hdg : decode cc pc = .ok (.putfield 36, 3)) (kk : ∀ (H1 : Heap) (locs1 : List Loc), va_P D vwCl (ws.set q0 (a, .inr (9, fs.set 3 v))) H1 → va_D A (ws.set q0 (a, .inr (9, fs.set 3 v))) → va_S A H0 H1 locs1 → W p l e R s m args below meth c H1 locs1 cells slots Q (F0 m (pc + 3) ls rest)) : W p l e R s m args below meth c H locs cells slots Q (F0 m pc ls (v :: .ref a :: rest)) := va_put (C := RX8) (T := TX8) (N := 12) (ci := 9) hx hb hts inX8 tyX8 tkX8 nmX8 hown hK hP hD hS0 q0 he rfl 3 (by decide) (hts _ t98) (fun _ h => h) rfl (tkX8 3 (by decide)) hn hfit hl hdg kk
theorem dX8_open_5 : decode cX8_open 5 = .ok (.aload_n 0, 1) := by decide +kernel
theorem dX8_open_6 : decode cX8_open 6 = .ok (.iconst 0, 1) := by decide +kernel
theorem dX8_open_7 : decode cX8_open 7 = .ok (.putfield 39, 3) := by decide +kernel
theorem pf_X8_39 {p : Program} {l : Launch} {e : Env} {R : Room} {s : State} {m : MethodId} {args : Array Value} {below : List Frame} {meth : Method} {c : Code} {H : Heap} {locs : List Loc} {cells slots : Nat} {Q : State → Prop} {cc : ByteArray} {pc : Nat} {ls : Array Slot} {rest : List Value} {D : va_G} {A : Nat → Prop} {a : Nat} {tys : List (ClassId × FieldType)} {ws : va_W} {H0 : Heap} (hx : p.tables.exec = Jvm.exec) (hb : c.code = cc) (hts : ∀ w ∈ GW, w.before args s = true) (hown : s.vm.findClass RX8 = some m.cls) (hK : va_K D vwCl tys s) (hP : va_P D vwCl ws H) (hD : va_D A ws) (hS0 : va_S A H0 H locs) (q0 : Nat) {fs : List Value} (he : ws[q0]? = some (a, .inr (9, fs))) {v : Value} (hn : narrow (tyX8 4) v = v) (hfit : fits (tyX8 4) v = true) (hl : 4 < fs.length) (hdg : decode cc pc = .ok (.putfield 39, 3)) (kk : ∀ (H1 : Heap) (locs1 : List Loc), va_P D vwCl (ws.set q0 (a, .inr (9, fs.set 4 v))) H1 → va_D A (ws.set q0 (a, .inr (9, fs.set 4 v))) → va_S A H0 H1 locs1 → W p l e R s m args below meth c H1 locs1 cells slots Q (F0 m (pc + 3) ls rest)) : W p l e R s m args below meth c H locs cells slots Q (F0 m pc ls (v :: .ref a :: rest)) := va_put (C := RX8) (T := TX8) (N := 12) (ci := 9) hx hb hts inX8 tyX8 tkX8 nmX8 hown hK hP hD hS0 q0 he rfl 4 (by decide) (hts _ t99) (fun _ h => h) rfl (tkX8 4 (by decide)) hn hfit hl hdg kk
theorem dX8_open_10 : decode cX8_open 10 = .ok (.aload_n 0, 1) := by decide +kernel
theorem dX8_open_11 : decode cX8_open 11 = .ok (.iconst 0, 1) := by decide +kernel
theorem dX8_open_12 : decode cX8_open 12 = .ok (.putfield 42, 3) := by decide +kernel
theorem t114 : Cond.fieldLink RX8 42 "LikenessPound$Tape" "faultKind" "I" ∈ GW := gw_mem 228 (by decide +kernel) (by decide +kernel)
theorem pf_X8_42 {p : Program} {l : Launch} {e : Env} {R : Room} {s : State} {m : MethodId} {args : Array Value} {below : List Frame} {meth : Method} {c : Code} {H : Heap} {locs : List Loc} {cells slots : Nat} {Q : State → Prop} {cc : ByteArray} {pc : Nat} {ls : Array Slot} {rest : List Value} {D : va_G} {A : Nat → Prop} {a : Nat} {tys : List (ClassId × FieldType)} {ws : va_W} {H0 : Heap} (hx : p.tables.exec = Jvm.exec) (hb : c.code = cc) (hts : ∀ w ∈ GW, w.before args s = true) (hown : s.vm.findClass RX8 = some m.cls) (hK : va_K D vwCl tys s) (hP : va_P D vwCl ws H) (hD : va_D A ws) (hS0 : va_S A H0 H locs) (q0 : Nat) {fs : List Value} (he : ws[q0]? = some (a, .inr (9, fs))) {v : Value} (hn : narrow (tyX8 10) v = v) (hfit : fits (tyX8 10) v = true) (hl : 10 < fs.length) (hdg : decode cc pc = .ok (.putfield 42, 3)) (kk : ∀ (H1 : Heap) (locs1 : List Loc), va_P D vwCl (ws.set q0 (a, .inr (9, fs.set 10 v))) H1 → va_D A (ws.set q0 (a, .inr (9, fs.set 10 v))) → va_S A H0 H1 locs1 → W p l e R s m args below meth c H1 locs1 cells slots Q (F0 m (pc + 3) ls rest)) : W p l e R s m args below meth c H locs cells slots Q (F0 m pc ls (v :: .ref a :: rest)) := va_put (C := RX8) (T := TX8) (N := 12) (ci := 9) hx hb hts inX8 tyX8 tkX8 nmX8 hown hK hP hD hS0 q0 he rfl 10 (by decide) (hts _ t114) (fun _ h => h) rfl (tkX8 10 (by decide)) hn hfit hl hdg kk
theorem dX8_open_15 : decode cX8_open 15 = .ok (.aload_n 0, 1) := by decide +kernel
theorem dX8_open_16 : decode cX8_open 16 = .ok (.iconst 0, 1) := by decide +kernel
theorem dX8_open_17 : decode cX8_open 17 = .ok (.putfield 45, 3) := by decide +kernel
theorem t116 : Cond.fieldLink RX8 45 "LikenessPound$Tape" "faultPlace" "I" ∈ GW := gw_mem 230 (by decide +kernel) (by decide +kernel)
theorem pf_X8_45 {p : Program} {l : Launch} {e : Env} {R : Room} {s : State} {m : MethodId} {args : Array Value} {below : List Frame} {meth : Method} {c : Code} {H : Heap} {locs : List Loc} {cells slots : Nat} {Q : State → Prop} {cc : ByteArray} {pc : Nat} {ls : Array Slot} {rest : List Value} {D : va_G} {A : Nat → Prop} {a : Nat} {tys : List (ClassId × FieldType)} {ws : va_W} {H0 : Heap} (hx : p.tables.exec = Jvm.exec) (hb : c.code = cc) (hts : ∀ w ∈ GW, w.before args s = true) (hown : s.vm.findClass RX8 = some m.cls) (hK : va_K D vwCl tys s) (hP : va_P D vwCl ws H) (hD : va_D A ws) (hS0 : va_S A H0 H locs) (q0 : Nat) {fs : List Value} (he : ws[q0]? = some (a, .inr (9, fs))) {v : Value} (hn : narrow (tyX8 11) v = v) (hfit : fits (tyX8 11) v = true) (hl : 11 < fs.length) (hdg : decode cc pc = .ok (.putfield 45, 3)) (kk : ∀ (H1 : Heap) (locs1 : List Loc), va_P D vwCl (ws.set q0 (a, .inr (9, fs.set 11 v))) H1 → va_D A (ws.set q0 (a, .inr (9, fs.set 11 v))) → va_S A H0 H1 locs1 → W p l e R s m args below meth c H1 locs1 cells slots Q (F0 m (pc + 3) ls rest)) : W p l e R s m args below meth c H locs cells slots Q (F0 m pc ls (v :: .ref a :: rest)) := va_put (C := RX8) (T := TX8) (N := 12) (ci := 9) hx hb hts inX8 tyX8 tkX8 nmX8 hown hK hP hD hS0 q0 he rfl 11 (by decide) (hts _ t116) (fun _ h => h) rfl (tkX8 11 (by decide)) hn hfit hl hdg kk
theorem dX8_open_20 : decode cX8_open 20 = .ok (.aload_n 0, 1) := by decide +kernel
theorem dX8_open_21 : decode cX8_open 21 = .ok (.invokevirtual 48, 3) := by decide +kernel
theorem t558 : Cond.methodLink RX8 48 yX8_advance ∈ GW := gw_mem 672 (by decide +kernel) (by decide +kernel)
theorem t559 : Cond.instanceMethod yX8_advance ∈ GW := gw_mem 673 (by decide +kernel) (by decide +kernel)
theorem t560 : Cond.selects RX8 yX8_advance yX8_advance ∈ GW := gw_mem 674 (by decide +kernel) (by decide +kernel)
theorem cw_X8_48 {R : Room} {s : State} {args : Array Value} {rm : Room} {mc ms : Nat} (hts : ∀ w ∈ GW, w.before args s = true) (hrc : rm.cells = mc) (hrs : rm.slots = ms) (hR : rm.frames + 1 ≤ R.frames ∧ 8 + (1 + 11) + rm.locals ≤ R.locals) : CallW R s args RX8 RX8 48 yX8_advance cX8_advance 1 none (wl yX8_advance cX8_advance 1 none) rm mc ms 0 := cwV 0 hts (gi_V t558 t559 t560 t2 t561) rfl hrc hrs (by decide +kernel) hR
theorem dX8_open_24 : decode cX8_open 24 = .ok (.return_, 1) := by decide +kernel
set_option maxHeartbeats 4000000 in
set_option maxRecDepth 100000 in
theorem k_open900 (l : Launch) (dC : Nat → ClassId) (dI : Nat → Nat → Nat) (cy : Nat → ClassId) (sz : Nat) (ad : Nat → Nat)  : Met l yX8_open (wl yX8_open cX8_open 2 none) ({ frames := 2, cells := 0, slots := 0, locals := 128 }) (Pw (dC, dI) vwCl cy [(ad 1, .inr (9, [.ref (ad 2), .ref (ad 3), .int 0, .int 0, .int 0, .int 0, .int 0, .int 0, .long 0, .int 0, .int 0, .int 0]))] sz [.ref (ad 1), .int 900] nE) (Qv (dC, dI) vwCl (fun (u : Unit) => True) (fun (u : Unit) => [(ad 1, .inr (9, [.ref (ad 2), .ref (ad 3), .int 0, .int 900, .int 0, .int 3, .int 0, .int (-1), .long 0, .int 0, .int 0, .int 0]))]) (va_A [(ad 1, .inr (9, [.ref (ad 2), .ref (ad 3), .int 0, .int 0, .int 0, .int 0, .int 0, .int 0, .long 0, .int 0, .int 0, .int 0]))] sz)) 0 0 (va_A [(ad 1, .inr (9, [.ref (ad 2), .ref (ad 3), .int 0, .int 0, .int 0, .int 0, .int 0, .int 0, .long 0, .int 0, .int 0, .int 0]))] sz) := by
  refine mw (Qc := Qv (dC, dI) vwCl (fun (u : Unit) => True) (fun (u : Unit) => [(ad 1, .inr (9, [.ref (ad 2), .ref (ad 3), .int 0, .int 900, .int 0, .int 3, .int 0, .int (-1), .long 0, .int 0, .int 0, .int 0]))])) RX8 rfl (by decide +kernel) (Nat.le_of_ble_eq_true rfl) ?_
  intro p e s m below meth c A hx hb hr hlocks av9 hav hts hown hnm hml hK hP hD hA hS hE hAe Q9 hQ9 ls hl
  have hl : lv_has ls 2 [(0, .ref (ad 1)), (1, .int 900)] := hl
  refine lv_aload_n hx hb dX8_open_0 rfl (lv_at hl 0 rfl) ?_
  refine lv_iload_n hx hb dX8_open_1 rfl (lv_at hl 1 rfl) ?_
  refine pf_X8_36 hx hb hts hown hK hP hD hS 0 rfl rfl rfl (Nat.le_of_ble_eq_true rfl) dX8_open_2 (fun H locs hP hD hS => ?_)
  have hP : va_P (dC, dI) vwCl [(ad 1, .inr (9, [.ref (ad 2), .ref (ad 3), .int 0, .int 900, .int 0, .int 0, .int 0, .int 0, .long 0, .int 0, .int 0, .int 0]))] H := hP
  have hD : va_D A [(ad 1, .inr (9, [.ref (ad 2), .ref (ad 3), .int 0, .int 900, .int 0, .int 0, .int 0, .int 0, .long 0, .int 0, .int 0, .int 0]))] := hD
  refine lv_aload_n hx hb dX8_open_5 rfl (lv_at hl 0 rfl) ?_
  refine lv_iconst (v := 0) hx hb dX8_open_6 (by decide) ?_
  refine pf_X8_39 hx hb hts hown hK hP hD hS 0 rfl rfl rfl (Nat.le_of_ble_eq_true rfl) dX8_open_7 (fun H locs hP hD hS => ?_)
  have hP : va_P (dC, dI) vwCl [(ad 1, .inr (9, [.ref (ad 2), .ref (ad 3), .int 0, .int 900, .int 0, .int 0, .int 0, .int 0, .long 0, .int 0, .int 0, .int 0]))] H := hP
  have hD : va_D A [(ad 1, .inr (9, [.ref (ad 2), .ref (ad 3), .int 0, .int 900, .int 0, .int 0, .int 0, .int 0, .long 0, .int 0, .int 0, .int 0]))] := hD
  refine lv_aload_n hx hb dX8_open_10 rfl (lv_at hl 0 rfl) ?_
  refine lv_iconst (v := 0) hx hb dX8_open_11 (by decide) ?_
  refine pf_X8_42 hx hb hts hown hK hP hD hS 0 rfl rfl rfl (Nat.le_of_ble_eq_true rfl) dX8_open_12 (fun H locs hP hD hS => ?_)
  have hP : va_P (dC, dI) vwCl [(ad 1, .inr (9, [.ref (ad 2), .ref (ad 3), .int 0, .int 900, .int 0, .int 0, .int 0, .int 0, .long 0, .int 0, .int 0, .int 0]))] H := hP
  have hD : va_D A [(ad 1, .inr (9, [.ref (ad 2), .ref (ad 3), .int 0, .int 900, .int 0, .int 0, .int 0, .int 0, .long 0, .int 0, .int 0, .int 0]))] := hD
  refine lv_aload_n hx hb dX8_open_15 rfl (lv_at hl 0 rfl) ?_
  refine lv_iconst (v := 0) hx hb dX8_open_16 (by decide) ?_
  refine pf_X8_45 hx hb hts hown hK hP hD hS 0 rfl rfl rfl (Nat.le_of_ble_eq_true rfl) dX8_open_17 (fun H locs hP hD hS => ?_)
  have hP : va_P (dC, dI) vwCl [(ad 1, .inr (9, [.ref (ad 2), .ref (ad 3), .int 0, .int 900, .int 0, .int 0, .int 0, .int 0, .long 0, .int 0, .int 0, .int 0]))] H := hP
  have hD : va_D A [(ad 1, .inr (9, [.ref (ad 2), .ref (ad 3), .int 0, .int 900, .int 0, .int 0, .int 0, .int 0, .long 0, .int 0, .int 0, .int 0]))] := hD
  refine lv_aload_n hx hb dX8_open_20 rfl (lv_at hl 0 rfl) ?_
  refine jn_v (wr := []) (rV (As := []) (rest := []) (ci := 9) ⟨hx, hb, hml, hown, hts⟩ (k_advance900 l dC dI cy _ ad ) (cw_X8_48 hts rfl rfl ⟨Nat.le_of_ble_eq_true rfl, Nat.le_of_ble_eq_true rfl⟩) hP hD hK [0] rfl rfl rfl rfl bl0 e0 rfl hl.1 rfl (Nat.le_of_ble_eq_true rfl) dX8_open_21 ⟨Nat.le_of_ble_eq_true rfl, Nat.le_of_ble_eq_true rfl⟩) hP hD hS hA [0] [] rfl rfl rfl (by decide) (fun u_3 H locs hp_2 hP hD hS => ?_)
  have hp_2 : True := hp_2
  have hP : va_P (dC, dI) vwCl [(ad 1, .inr (9, [.ref (ad 2), .ref (ad 3), .int 0, .int 900, .int 0, .int 3, .int 0, .int (-1), .long 0, .int 0, .int 0, .int 0]))] H := hP
  have hD : va_D A [(ad 1, .inr (9, [.ref (ad 2), .ref (ad 3), .int 0, .int 900, .int 0, .int 3, .int 0, .int (-1), .long 0, .int 0, .int 0, .int 0]))] := hD
  rw [hQ9]
  exact re_v () hx hb hr hlocks trivial (hP.sub [0] rfl) (hD.sub [0] rfl rfl) hS dX8_open_24
set_option maxHeartbeats 4000000 in
set_option maxRecDepth 100000 in
theorem k_advance400 (l : Launch) (dC : Nat → ClassId) (dI : Nat → Nat → Nat) (cy : Nat → ClassId) (sz : Nat) (ad : Nat → Nat)  : Met l yX8_advance (wl yX8_advance cX8_advance 1 none) ({ frames := 1, cells := 0, slots := 0, locals := 64 }) (Pw (dC, dI) vwCl cy [(ad 1, .inr (9, [.ref (ad 2), .ref (ad 3), .int 0, .int 400, .int 0, .int 0, .int 0, .int 0, .long 0, .int 0, .int 0, .int 0]))] sz [.ref (ad 1)] nE) (Qv (dC, dI) vwCl (fun (u : Unit) => True) (fun (u : Unit) => [(ad 1, .inr (9, [.ref (ad 2), .ref (ad 3), .int 0, .int 400, .int 0, .int 3, .int 0, .int (-1), .long 0, .int 0, .int 0, .int 0]))]) (va_A [(ad 1, .inr (9, [.ref (ad 2), .ref (ad 3), .int 0, .int 400, .int 0, .int 0, .int 0, .int 0, .long 0, .int 0, .int 0, .int 0]))] sz)) 0 0 (va_A [(ad 1, .inr (9, [.ref (ad 2), .ref (ad 3), .int 0, .int 400, .int 0, .int 0, .int 0, .int 0, .long 0, .int 0, .int 0, .int 0]))] sz) := by
  refine mw (Qc := Qv (dC, dI) vwCl (fun (u : Unit) => True) (fun (u : Unit) => [(ad 1, .inr (9, [.ref (ad 2), .ref (ad 3), .int 0, .int 400, .int 0, .int 3, .int 0, .int (-1), .long 0, .int 0, .int 0, .int 0]))])) RX8 rfl (by decide +kernel) (Nat.le_of_ble_eq_true rfl) ?_
  intro p e s m below meth c A hx hb hr hlocks av9 hav hts hown hnm hml hK hP hD hA hS hE hAe Q9 hQ9 ls hl
  have hl : lv_has ls 1 [(0, .ref (ad 1))] := hl
  refine lv_aload_n hx hb dX8_advance_0 rfl (lv_at hl 0 rfl) ?_
  refine gf_X8_39 hx hb hts hown hK hP 0 rfl rfl dX8_advance_1 ?_
  refine lv_aload_n hx hb dX8_advance_4 rfl (lv_at hl 0 rfl) ?_
  refine gf_X8_33 hx hb hts hown hK hP 0 rfl rfl dX8_advance_5 ?_
  refine lv_icmp_ge (tgt := 52) hx hb dX8_advance_8 (by decide) (fun _ => ?_) (fun c9 => absurd (by decide) c9)
  refine lv_aload_n hx hb dX8_advance_52 rfl (lv_at hl 0 rfl) ?_
  refine lv_aload_n hx hb dX8_advance_53 rfl (lv_at hl 0 rfl) ?_
  refine gf_X8_39 hx hb hts hown hK hP 0 rfl rfl dX8_advance_54 ?_
  refine pf_X8_51 hx hb hts hown hK hP hD hS 0 rfl rfl rfl (Nat.le_of_ble_eq_true rfl) dX8_advance_57 (fun H locs hP hD hS => ?_)
  have hP : va_P (dC, dI) vwCl [(ad 1, .inr (9, [.ref (ad 2), .ref (ad 3), .int 0, .int 400, .int 0, .int 0, .int 0, .int 0, .long 0, .int 0, .int 0, .int 0]))] H := hP
  have hD : va_D A [(ad 1, .inr (9, [.ref (ad 2), .ref (ad 3), .int 0, .int 400, .int 0, .int 0, .int 0, .int 0, .long 0, .int 0, .int 0, .int 0]))] := hD
  refine lv_aload_n hx hb dX8_advance_60 rfl (lv_at hl 0 rfl) ?_
  refine lv_iconst (v := (-1)) hx hb dX8_advance_61 (by decide) ?_
  refine pf_X8_54 hx hb hts hown hK hP hD hS 0 rfl rfl rfl (Nat.le_of_ble_eq_true rfl) dX8_advance_62 (fun H locs hP hD hS => ?_)
  have hP : va_P (dC, dI) vwCl [(ad 1, .inr (9, [.ref (ad 2), .ref (ad 3), .int 0, .int 400, .int 0, .int 0, .int 0, .int (-1), .long 0, .int 0, .int 0, .int 0]))] H := hP
  have hD : va_D A [(ad 1, .inr (9, [.ref (ad 2), .ref (ad 3), .int 0, .int 400, .int 0, .int 0, .int 0, .int (-1), .long 0, .int 0, .int 0, .int 0]))] := hD
  refine lv_aload_n hx hb dX8_advance_65 rfl (lv_at hl 0 rfl) ?_
  refine gf_X8_33 hx hb hts hown hK hP 0 rfl rfl dX8_advance_66 ?_
  refine lv_aload_n hx hb dX8_advance_69 rfl (lv_at hl 0 rfl) ?_
  refine gf_X8_36 hx hb hts hown hK hP 0 rfl rfl dX8_advance_70 ?_
  refine lv_icmp_le (tgt := 103) hx hb dX8_advance_73 (by decide) (fun _ => ?_) (fun c9 => absurd (by decide) c9)
  refine lv_aload_n hx hb dX8_advance_103 rfl (lv_at hl 0 rfl) ?_
  refine gf_X8_39 hx hb hts hown hK hP 0 rfl rfl dX8_advance_104 ?_
  refine lv_aload_n hx hb dX8_advance_107 rfl (lv_at hl 0 rfl) ?_
  refine gf_X8_33 hx hb hts hown hK hP 0 rfl rfl dX8_advance_108 ?_
  refine lv_icmp_lt (tgt := 122) hx hb dX8_advance_111 (by decide) (fun c9 => absurd c9 (by decide)) (fun _ => ?_)
  refine lv_aload_n hx hb dX8_advance_114 rfl (lv_at hl 0 rfl) ?_
  refine lv_iconst (v := 3) hx hb dX8_advance_115 (by decide) ?_
  refine pf_X8_57 hx hb hts hown hK hP hD hS 0 rfl rfl rfl (Nat.le_of_ble_eq_true rfl) dX8_advance_116 (fun H locs hP hD hS => ?_)
  have hP : va_P (dC, dI) vwCl [(ad 1, .inr (9, [.ref (ad 2), .ref (ad 3), .int 0, .int 400, .int 0, .int 3, .int 0, .int (-1), .long 0, .int 0, .int 0, .int 0]))] H := hP
  have hD : va_D A [(ad 1, .inr (9, [.ref (ad 2), .ref (ad 3), .int 0, .int 400, .int 0, .int 3, .int 0, .int (-1), .long 0, .int 0, .int 0, .int 0]))] := hD
  refine lv_goto (tgt := 206) hx hb dX8_advance_119 (by decide) ?_
  rw [hQ9]
  exact re_v () hx hb hr hlocks trivial (hP.sub [0] rfl) (hD.sub [0] rfl rfl) hS dX8_advance_206
set_option maxHeartbeats 4000000 in
set_option maxRecDepth 100000 in
theorem k_open400 (l : Launch) (dC : Nat → ClassId) (dI : Nat → Nat → Nat) (cy : Nat → ClassId) (sz : Nat) (ad : Nat → Nat)  : Met l yX8_open (wl yX8_open cX8_open 2 none) ({ frames := 2, cells := 0, slots := 0, locals := 128 }) (Pw (dC, dI) vwCl cy [(ad 1, .inr (9, [.ref (ad 2), .ref (ad 3), .int 0, .int 0, .int 0, .int 0, .int 0, .int 0, .long 0, .int 0, .int 0, .int 0]))] sz [.ref (ad 1), .int 400] nE) (Qv (dC, dI) vwCl (fun (u : Unit) => True) (fun (u : Unit) => [(ad 1, .inr (9, [.ref (ad 2), .ref (ad 3), .int 0, .int 400, .int 0, .int 3, .int 0, .int (-1), .long 0, .int 0, .int 0, .int 0]))]) (va_A [(ad 1, .inr (9, [.ref (ad 2), .ref (ad 3), .int 0, .int 0, .int 0, .int 0, .int 0, .int 0, .long 0, .int 0, .int 0, .int 0]))] sz)) 0 0 (va_A [(ad 1, .inr (9, [.ref (ad 2), .ref (ad 3), .int 0, .int 0, .int 0, .int 0, .int 0, .int 0, .long 0, .int 0, .int 0, .int 0]))] sz) := by
  refine mw (Qc := Qv (dC, dI) vwCl (fun (u : Unit) => True) (fun (u : Unit) => [(ad 1, .inr (9, [.ref (ad 2), .ref (ad 3), .int 0, .int 400, .int 0, .int 3, .int 0, .int (-1), .long 0, .int 0, .int 0, .int 0]))])) RX8 rfl (by decide +kernel) (Nat.le_of_ble_eq_true rfl) ?_
  intro p e s m below meth c A hx hb hr hlocks av9 hav hts hown hnm hml hK hP hD hA hS hE hAe Q9 hQ9 ls hl
  have hl : lv_has ls 2 [(0, .ref (ad 1)), (1, .int 400)] := hl
  refine lv_aload_n hx hb dX8_open_0 rfl (lv_at hl 0 rfl) ?_
  refine lv_iload_n hx hb dX8_open_1 rfl (lv_at hl 1 rfl) ?_
  refine pf_X8_36 hx hb hts hown hK hP hD hS 0 rfl rfl rfl (Nat.le_of_ble_eq_true rfl) dX8_open_2 (fun H locs hP hD hS => ?_)
  have hP : va_P (dC, dI) vwCl [(ad 1, .inr (9, [.ref (ad 2), .ref (ad 3), .int 0, .int 400, .int 0, .int 0, .int 0, .int 0, .long 0, .int 0, .int 0, .int 0]))] H := hP
  have hD : va_D A [(ad 1, .inr (9, [.ref (ad 2), .ref (ad 3), .int 0, .int 400, .int 0, .int 0, .int 0, .int 0, .long 0, .int 0, .int 0, .int 0]))] := hD
  refine lv_aload_n hx hb dX8_open_5 rfl (lv_at hl 0 rfl) ?_
  refine lv_iconst (v := 0) hx hb dX8_open_6 (by decide) ?_
  refine pf_X8_39 hx hb hts hown hK hP hD hS 0 rfl rfl rfl (Nat.le_of_ble_eq_true rfl) dX8_open_7 (fun H locs hP hD hS => ?_)
  have hP : va_P (dC, dI) vwCl [(ad 1, .inr (9, [.ref (ad 2), .ref (ad 3), .int 0, .int 400, .int 0, .int 0, .int 0, .int 0, .long 0, .int 0, .int 0, .int 0]))] H := hP
  have hD : va_D A [(ad 1, .inr (9, [.ref (ad 2), .ref (ad 3), .int 0, .int 400, .int 0, .int 0, .int 0, .int 0, .long 0, .int 0, .int 0, .int 0]))] := hD
  refine lv_aload_n hx hb dX8_open_10 rfl (lv_at hl 0 rfl) ?_
  refine lv_iconst (v := 0) hx hb dX8_open_11 (by decide) ?_
  refine pf_X8_42 hx hb hts hown hK hP hD hS 0 rfl rfl rfl (Nat.le_of_ble_eq_true rfl) dX8_open_12 (fun H locs hP hD hS => ?_)
  have hP : va_P (dC, dI) vwCl [(ad 1, .inr (9, [.ref (ad 2), .ref (ad 3), .int 0, .int 400, .int 0, .int 0, .int 0, .int 0, .long 0, .int 0, .int 0, .int 0]))] H := hP
  have hD : va_D A [(ad 1, .inr (9, [.ref (ad 2), .ref (ad 3), .int 0, .int 400, .int 0, .int 0, .int 0, .int 0, .long 0, .int 0, .int 0, .int 0]))] := hD
  refine lv_aload_n hx hb dX8_open_15 rfl (lv_at hl 0 rfl) ?_
  refine lv_iconst (v := 0) hx hb dX8_open_16 (by decide) ?_
  refine pf_X8_45 hx hb hts hown hK hP hD hS 0 rfl rfl rfl (Nat.le_of_ble_eq_true rfl) dX8_open_17 (fun H locs hP hD hS => ?_)
  have hP : va_P (dC, dI) vwCl [(ad 1, .inr (9, [.ref (ad 2), .ref (ad 3), .int 0, .int 400, .int 0, .int 0, .int 0, .int 0, .long 0, .int 0, .int 0, .int 0]))] H := hP
  have hD : va_D A [(ad 1, .inr (9, [.ref (ad 2), .ref (ad 3), .int 0, .int 400, .int 0, .int 0, .int 0, .int 0, .long 0, .int 0, .int 0, .int 0]))] := hD
  refine lv_aload_n hx hb dX8_open_20 rfl (lv_at hl 0 rfl) ?_
  refine jn_v (wr := []) (rV (As := []) (rest := []) (ci := 9) ⟨hx, hb, hml, hown, hts⟩ (k_advance400 l dC dI cy _ ad ) (cw_X8_48 hts rfl rfl ⟨Nat.le_of_ble_eq_true rfl, Nat.le_of_ble_eq_true rfl⟩) hP hD hK [0] rfl rfl rfl rfl bl0 e0 rfl hl.1 rfl (Nat.le_of_ble_eq_true rfl) dX8_open_21 ⟨Nat.le_of_ble_eq_true rfl, Nat.le_of_ble_eq_true rfl⟩) hP hD hS hA [0] [] rfl rfl rfl (by decide) (fun u_3 H locs hp_2 hP hD hS => ?_)
  have hp_2 : True := hp_2
  have hP : va_P (dC, dI) vwCl [(ad 1, .inr (9, [.ref (ad 2), .ref (ad 3), .int 0, .int 400, .int 0, .int 3, .int 0, .int (-1), .long 0, .int 0, .int 0, .int 0]))] H := hP
  have hD : va_D A [(ad 1, .inr (9, [.ref (ad 2), .ref (ad 3), .int 0, .int 400, .int 0, .int 3, .int 0, .int (-1), .long 0, .int 0, .int 0, .int 0]))] := hD
  rw [hQ9]
  exact re_v () hx hb hr hlocks trivial (hP.sub [0] rfl) (hD.sub [0] rfl rfl) hS dX8_open_24
set_option maxHeartbeats 4000000 in
set_option maxRecDepth 100000 in
theorem k_advance200 (l : Launch) (dC : Nat → ClassId) (dI : Nat → Nat → Nat) (cy : Nat → ClassId) (sz : Nat) (ad : Nat → Nat)  : Met l yX8_advance (wl yX8_advance cX8_advance 1 none) ({ frames := 1, cells := 0, slots := 0, locals := 64 }) (Pw (dC, dI) vwCl cy [(ad 1, .inr (9, [.ref (ad 2), .ref (ad 3), .int 0, .int 200, .int 0, .int 0, .int 0, .int 0, .long 0, .int 0, .int 0, .int 0]))] sz [.ref (ad 1)] nE) (Qv (dC, dI) vwCl (fun (u : Unit) => True) (fun (u : Unit) => [(ad 1, .inr (9, [.ref (ad 2), .ref (ad 3), .int 0, .int 200, .int 0, .int 3, .int 0, .int (-1), .long 0, .int 0, .int 0, .int 0]))]) (va_A [(ad 1, .inr (9, [.ref (ad 2), .ref (ad 3), .int 0, .int 200, .int 0, .int 0, .int 0, .int 0, .long 0, .int 0, .int 0, .int 0]))] sz)) 0 0 (va_A [(ad 1, .inr (9, [.ref (ad 2), .ref (ad 3), .int 0, .int 200, .int 0, .int 0, .int 0, .int 0, .long 0, .int 0, .int 0, .int 0]))] sz) := by
  refine mw (Qc := Qv (dC, dI) vwCl (fun (u : Unit) => True) (fun (u : Unit) => [(ad 1, .inr (9, [.ref (ad 2), .ref (ad 3), .int 0, .int 200, .int 0, .int 3, .int 0, .int (-1), .long 0, .int 0, .int 0, .int 0]))])) RX8 rfl (by decide +kernel) (Nat.le_of_ble_eq_true rfl) ?_
  intro p e s m below meth c A hx hb hr hlocks av9 hav hts hown hnm hml hK hP hD hA hS hE hAe Q9 hQ9 ls hl
  have hl : lv_has ls 1 [(0, .ref (ad 1))] := hl
  refine lv_aload_n hx hb dX8_advance_0 rfl (lv_at hl 0 rfl) ?_
  refine gf_X8_39 hx hb hts hown hK hP 0 rfl rfl dX8_advance_1 ?_
  refine lv_aload_n hx hb dX8_advance_4 rfl (lv_at hl 0 rfl) ?_
  refine gf_X8_33 hx hb hts hown hK hP 0 rfl rfl dX8_advance_5 ?_
  refine lv_icmp_ge (tgt := 52) hx hb dX8_advance_8 (by decide) (fun _ => ?_) (fun c9 => absurd (by decide) c9)
  refine lv_aload_n hx hb dX8_advance_52 rfl (lv_at hl 0 rfl) ?_
  refine lv_aload_n hx hb dX8_advance_53 rfl (lv_at hl 0 rfl) ?_
  refine gf_X8_39 hx hb hts hown hK hP 0 rfl rfl dX8_advance_54 ?_
  refine pf_X8_51 hx hb hts hown hK hP hD hS 0 rfl rfl rfl (Nat.le_of_ble_eq_true rfl) dX8_advance_57 (fun H locs hP hD hS => ?_)
  have hP : va_P (dC, dI) vwCl [(ad 1, .inr (9, [.ref (ad 2), .ref (ad 3), .int 0, .int 200, .int 0, .int 0, .int 0, .int 0, .long 0, .int 0, .int 0, .int 0]))] H := hP
  have hD : va_D A [(ad 1, .inr (9, [.ref (ad 2), .ref (ad 3), .int 0, .int 200, .int 0, .int 0, .int 0, .int 0, .long 0, .int 0, .int 0, .int 0]))] := hD
  refine lv_aload_n hx hb dX8_advance_60 rfl (lv_at hl 0 rfl) ?_
  refine lv_iconst (v := (-1)) hx hb dX8_advance_61 (by decide) ?_
  refine pf_X8_54 hx hb hts hown hK hP hD hS 0 rfl rfl rfl (Nat.le_of_ble_eq_true rfl) dX8_advance_62 (fun H locs hP hD hS => ?_)
  have hP : va_P (dC, dI) vwCl [(ad 1, .inr (9, [.ref (ad 2), .ref (ad 3), .int 0, .int 200, .int 0, .int 0, .int 0, .int (-1), .long 0, .int 0, .int 0, .int 0]))] H := hP
  have hD : va_D A [(ad 1, .inr (9, [.ref (ad 2), .ref (ad 3), .int 0, .int 200, .int 0, .int 0, .int 0, .int (-1), .long 0, .int 0, .int 0, .int 0]))] := hD
  refine lv_aload_n hx hb dX8_advance_65 rfl (lv_at hl 0 rfl) ?_
  refine gf_X8_33 hx hb hts hown hK hP 0 rfl rfl dX8_advance_66 ?_
  refine lv_aload_n hx hb dX8_advance_69 rfl (lv_at hl 0 rfl) ?_
  refine gf_X8_36 hx hb hts hown hK hP 0 rfl rfl dX8_advance_70 ?_
  refine lv_icmp_le (tgt := 103) hx hb dX8_advance_73 (by decide) (fun _ => ?_) (fun c9 => absurd (by decide) c9)
  refine lv_aload_n hx hb dX8_advance_103 rfl (lv_at hl 0 rfl) ?_
  refine gf_X8_39 hx hb hts hown hK hP 0 rfl rfl dX8_advance_104 ?_
  refine lv_aload_n hx hb dX8_advance_107 rfl (lv_at hl 0 rfl) ?_
  refine gf_X8_33 hx hb hts hown hK hP 0 rfl rfl dX8_advance_108 ?_
  refine lv_icmp_lt (tgt := 122) hx hb dX8_advance_111 (by decide) (fun c9 => absurd c9 (by decide)) (fun _ => ?_)
  refine lv_aload_n hx hb dX8_advance_114 rfl (lv_at hl 0 rfl) ?_
  refine lv_iconst (v := 3) hx hb dX8_advance_115 (by decide) ?_
  refine pf_X8_57 hx hb hts hown hK hP hD hS 0 rfl rfl rfl (Nat.le_of_ble_eq_true rfl) dX8_advance_116 (fun H locs hP hD hS => ?_)
  have hP : va_P (dC, dI) vwCl [(ad 1, .inr (9, [.ref (ad 2), .ref (ad 3), .int 0, .int 200, .int 0, .int 3, .int 0, .int (-1), .long 0, .int 0, .int 0, .int 0]))] H := hP
  have hD : va_D A [(ad 1, .inr (9, [.ref (ad 2), .ref (ad 3), .int 0, .int 200, .int 0, .int 3, .int 0, .int (-1), .long 0, .int 0, .int 0, .int 0]))] := hD
  refine lv_goto (tgt := 206) hx hb dX8_advance_119 (by decide) ?_
  rw [hQ9]
  exact re_v () hx hb hr hlocks trivial (hP.sub [0] rfl) (hD.sub [0] rfl rfl) hS dX8_advance_206
set_option maxHeartbeats 4000000 in
set_option maxRecDepth 100000 in
theorem k_open200 (l : Launch) (dC : Nat → ClassId) (dI : Nat → Nat → Nat) (cy : Nat → ClassId) (sz : Nat) (ad : Nat → Nat)  : Met l yX8_open (wl yX8_open cX8_open 2 none) ({ frames := 2, cells := 0, slots := 0, locals := 128 }) (Pw (dC, dI) vwCl cy [(ad 1, .inr (9, [.ref (ad 2), .ref (ad 3), .int 0, .int 0, .int 0, .int 0, .int 0, .int 0, .long 0, .int 0, .int 0, .int 0]))] sz [.ref (ad 1), .int 200] nE) (Qv (dC, dI) vwCl (fun (u : Unit) => True) (fun (u : Unit) => [(ad 1, .inr (9, [.ref (ad 2), .ref (ad 3), .int 0, .int 200, .int 0, .int 3, .int 0, .int (-1), .long 0, .int 0, .int 0, .int 0]))]) (va_A [(ad 1, .inr (9, [.ref (ad 2), .ref (ad 3), .int 0, .int 0, .int 0, .int 0, .int 0, .int 0, .long 0, .int 0, .int 0, .int 0]))] sz)) 0 0 (va_A [(ad 1, .inr (9, [.ref (ad 2), .ref (ad 3), .int 0, .int 0, .int 0, .int 0, .int 0, .int 0, .long 0, .int 0, .int 0, .int 0]))] sz) := by
  refine mw (Qc := Qv (dC, dI) vwCl (fun (u : Unit) => True) (fun (u : Unit) => [(ad 1, .inr (9, [.ref (ad 2), .ref (ad 3), .int 0, .int 200, .int 0, .int 3, .int 0, .int (-1), .long 0, .int 0, .int 0, .int 0]))])) RX8 rfl (by decide +kernel) (Nat.le_of_ble_eq_true rfl) ?_
  intro p e s m below meth c A hx hb hr hlocks av9 hav hts hown hnm hml hK hP hD hA hS hE hAe Q9 hQ9 ls hl
  have hl : lv_has ls 2 [(0, .ref (ad 1)), (1, .int 200)] := hl
  refine lv_aload_n hx hb dX8_open_0 rfl (lv_at hl 0 rfl) ?_
  refine lv_iload_n hx hb dX8_open_1 rfl (lv_at hl 1 rfl) ?_
  refine pf_X8_36 hx hb hts hown hK hP hD hS 0 rfl rfl rfl (Nat.le_of_ble_eq_true rfl) dX8_open_2 (fun H locs hP hD hS => ?_)
  have hP : va_P (dC, dI) vwCl [(ad 1, .inr (9, [.ref (ad 2), .ref (ad 3), .int 0, .int 200, .int 0, .int 0, .int 0, .int 0, .long 0, .int 0, .int 0, .int 0]))] H := hP
  have hD : va_D A [(ad 1, .inr (9, [.ref (ad 2), .ref (ad 3), .int 0, .int 200, .int 0, .int 0, .int 0, .int 0, .long 0, .int 0, .int 0, .int 0]))] := hD
  refine lv_aload_n hx hb dX8_open_5 rfl (lv_at hl 0 rfl) ?_
  refine lv_iconst (v := 0) hx hb dX8_open_6 (by decide) ?_
  refine pf_X8_39 hx hb hts hown hK hP hD hS 0 rfl rfl rfl (Nat.le_of_ble_eq_true rfl) dX8_open_7 (fun H locs hP hD hS => ?_)
  have hP : va_P (dC, dI) vwCl [(ad 1, .inr (9, [.ref (ad 2), .ref (ad 3), .int 0, .int 200, .int 0, .int 0, .int 0, .int 0, .long 0, .int 0, .int 0, .int 0]))] H := hP
  have hD : va_D A [(ad 1, .inr (9, [.ref (ad 2), .ref (ad 3), .int 0, .int 200, .int 0, .int 0, .int 0, .int 0, .long 0, .int 0, .int 0, .int 0]))] := hD
  refine lv_aload_n hx hb dX8_open_10 rfl (lv_at hl 0 rfl) ?_
  refine lv_iconst (v := 0) hx hb dX8_open_11 (by decide) ?_
  refine pf_X8_42 hx hb hts hown hK hP hD hS 0 rfl rfl rfl (Nat.le_of_ble_eq_true rfl) dX8_open_12 (fun H locs hP hD hS => ?_)
  have hP : va_P (dC, dI) vwCl [(ad 1, .inr (9, [.ref (ad 2), .ref (ad 3), .int 0, .int 200, .int 0, .int 0, .int 0, .int 0, .long 0, .int 0, .int 0, .int 0]))] H := hP
  have hD : va_D A [(ad 1, .inr (9, [.ref (ad 2), .ref (ad 3), .int 0, .int 200, .int 0, .int 0, .int 0, .int 0, .long 0, .int 0, .int 0, .int 0]))] := hD
  refine lv_aload_n hx hb dX8_open_15 rfl (lv_at hl 0 rfl) ?_
  refine lv_iconst (v := 0) hx hb dX8_open_16 (by decide) ?_
  refine pf_X8_45 hx hb hts hown hK hP hD hS 0 rfl rfl rfl (Nat.le_of_ble_eq_true rfl) dX8_open_17 (fun H locs hP hD hS => ?_)
  have hP : va_P (dC, dI) vwCl [(ad 1, .inr (9, [.ref (ad 2), .ref (ad 3), .int 0, .int 200, .int 0, .int 0, .int 0, .int 0, .long 0, .int 0, .int 0, .int 0]))] H := hP
  have hD : va_D A [(ad 1, .inr (9, [.ref (ad 2), .ref (ad 3), .int 0, .int 200, .int 0, .int 0, .int 0, .int 0, .long 0, .int 0, .int 0, .int 0]))] := hD
  refine lv_aload_n hx hb dX8_open_20 rfl (lv_at hl 0 rfl) ?_
  refine jn_v (wr := []) (rV (As := []) (rest := []) (ci := 9) ⟨hx, hb, hml, hown, hts⟩ (k_advance200 l dC dI cy _ ad ) (cw_X8_48 hts rfl rfl ⟨Nat.le_of_ble_eq_true rfl, Nat.le_of_ble_eq_true rfl⟩) hP hD hK [0] rfl rfl rfl rfl bl0 e0 rfl hl.1 rfl (Nat.le_of_ble_eq_true rfl) dX8_open_21 ⟨Nat.le_of_ble_eq_true rfl, Nat.le_of_ble_eq_true rfl⟩) hP hD hS hA [0] [] rfl rfl rfl (by decide) (fun u_3 H locs hp_2 hP hD hS => ?_)
  have hp_2 : True := hp_2
  have hP : va_P (dC, dI) vwCl [(ad 1, .inr (9, [.ref (ad 2), .ref (ad 3), .int 0, .int 200, .int 0, .int 3, .int 0, .int (-1), .long 0, .int 0, .int 0, .int 0]))] H := hP
  have hD : va_D A [(ad 1, .inr (9, [.ref (ad 2), .ref (ad 3), .int 0, .int 200, .int 0, .int 3, .int 0, .int (-1), .long 0, .int 0, .int 0, .int 0]))] := hD
  rw [hQ9]
  exact re_v () hx hb hr hlocks trivial (hP.sub [0] rfl) (hD.sub [0] rfl rfl) hS dX8_open_24
abbrev cX2_read : ByteArray := prog_4_method_2_code
def yX2_read : MethodName := ⟨RX2, "read", "(LLikenessPound$Tape;LLikenessPound$Colony;LLikenessPound$Life;)Z"⟩
theorem t548 : Cond.code yX2_read cX2_read 4 (some .boolean) ∈ GW := gw_mem 662 (by decide +kernel) (by decide +kernel)
theorem dX2_read_0 : decode cX2_read 0 = .ok (.aload_n 2, 1) := by decide +kernel
theorem dX2_read_1 : decode cX2_read 1 = .ok (.invokevirtual 9, 3) := by decide +kernel
theorem t549 : Cond.methodLink RX2 9 yX1_clear ∈ GW := gw_mem 663 (by decide +kernel) (by decide +kernel)
theorem t550 : Cond.instanceMethod yX1_clear ∈ GW := gw_mem 664 (by decide +kernel) (by decide +kernel)
theorem t551 : Cond.selects RX1 yX1_clear yX1_clear ∈ GW := gw_mem 665 (by decide +kernel) (by decide +kernel)
theorem cw_X2_9 {R : Room} {s : State} {args : Array Value} {rm : Room} {mc ms : Nat} (hts : ∀ w ∈ GW, w.before args s = true) (hrc : rm.cells = mc) (hrs : rm.slots = ms) (hR : rm.frames + 1 ≤ R.frames ∧ 8 + (2 + 11) + rm.locals ≤ R.locals) : CallW R s args RX2 RX1 9 yX1_clear cX1_clear 2 none (wl yX1_clear cX1_clear 2 none) rm mc ms 0 := cwV 0 hts (gi_V t549 t550 t551 t16 t552) rfl hrc hrs (by decide +kernel) hR
theorem dX2_read_4 : decode cX2_read 4 = .ok (.aload_n 3, 1) := by decide +kernel
theorem dX2_read_5 : decode cX2_read 5 = .ok (.invokevirtual 14, 3) := by decide +kernel
theorem t553 : Cond.methodLink RX2 14 yX4_clear ∈ GW := gw_mem 667 (by decide +kernel) (by decide +kernel)
theorem t225 : Cond.instanceMethod yX4_clear ∈ GW := gw_mem 339 (by decide +kernel) (by decide +kernel)
theorem t226 : Cond.selects RX4 yX4_clear yX4_clear ∈ GW := gw_mem 340 (by decide +kernel) (by decide +kernel)
theorem cw_X2_14 {R : Room} {s : State} {args : Array Value} {rm : Room} {mc ms : Nat} (hts : ∀ w ∈ GW, w.before args s = true) (hrc : rm.cells = mc) (hrs : rm.slots = ms) (hR : rm.frames + 1 ≤ R.frames ∧ 8 + (2 + 11) + rm.locals ≤ R.locals) : CallW R s args RX2 RX4 14 yX4_clear cX4_clear 2 none (wl yX4_clear cX4_clear 2 none) rm mc ms 0 := cwV 0 hts (gi_V t553 t225 t226 t10 t227) rfl hrc hrs (by decide +kernel) hR
theorem dX2_read_8 : decode cX2_read 8 = .ok (.aload_n 0, 1) := by decide +kernel
theorem dX2_read_9 : decode cX2_read 9 = .ok (.iconst 0, 1) := by decide +kernel
theorem dX2_read_10 : decode cX2_read 10 = .ok (.putfield 17, 3) := by decide +kernel
theorem t156 : Cond.fieldLink RX2 17 "LikenessPound$ColonyText" "roomTold" "Z" ∈ GW := gw_mem 270 (by decide +kernel) (by decide +kernel)
theorem pf_X2_17 {p : Program} {l : Launch} {e : Env} {R : Room} {s : State} {m : MethodId} {args : Array Value} {below : List Frame} {meth : Method} {c : Code} {H : Heap} {locs : List Loc} {cells slots : Nat} {Q : State → Prop} {cc : ByteArray} {pc : Nat} {ls : Array Slot} {rest : List Value} {D : va_G} {A : Nat → Prop} {a : Nat} {tys : List (ClassId × FieldType)} {ws : va_W} {H0 : Heap} (hx : p.tables.exec = Jvm.exec) (hb : c.code = cc) (hts : ∀ w ∈ GW, w.before args s = true) (hown : s.vm.findClass RX2 = some m.cls) (hK : va_K D vwCl tys s) (hP : va_P D vwCl ws H) (hD : va_D A ws) (hS0 : va_S A H0 H locs) (q0 : Nat) {fs : List Value} (he : ws[q0]? = some (a, .inr (3, fs))) {v : Value} (hn : narrow (tyX2 3) v = v) (hfit : fits (tyX2 3) v = true) (hl : 3 < fs.length) (hdg : decode cc pc = .ok (.putfield 17, 3)) (kk : ∀ (H1 : Heap) (locs1 : List Loc), va_P D vwCl (ws.set q0 (a, .inr (3, fs.set 3 v))) H1 → va_D A (ws.set q0 (a, .inr (3, fs.set 3 v))) → va_S A H0 H1 locs1 → W p l e R s m args below meth c H1 locs1 cells slots Q (F0 m (pc + 3) ls rest)) : W p l e R s m args below meth c H locs cells slots Q (F0 m pc ls (v :: .ref a :: rest)) := va_put (C := RX2) (T := TX2) (N := 5) (ci := 3) hx hb hts inX2 tyX2 tkX2 nmX2 hown hK hP hD hS0 q0 he rfl 3 (by decide) (hts _ t156) (fun _ h => h) rfl (tkX2 3 (by decide)) hn hfit hl hdg kk
theorem dX2_read_13 : decode cX2_read 13 = .ok (.aload_n 0, 1) := by decide +kernel
theorem dX2_read_14 : decode cX2_read 14 = .ok (.iconst 0, 1) := by decide +kernel
theorem dX2_read_15 : decode cX2_read 15 = .ok (.putfield 23, 3) := by decide +kernel
theorem t157 : Cond.fieldLink RX2 23 "LikenessPound$ColonyText" "faintTold" "Z" ∈ GW := gw_mem 271 (by decide +kernel) (by decide +kernel)
theorem pf_X2_23 {p : Program} {l : Launch} {e : Env} {R : Room} {s : State} {m : MethodId} {args : Array Value} {below : List Frame} {meth : Method} {c : Code} {H : Heap} {locs : List Loc} {cells slots : Nat} {Q : State → Prop} {cc : ByteArray} {pc : Nat} {ls : Array Slot} {rest : List Value} {D : va_G} {A : Nat → Prop} {a : Nat} {tys : List (ClassId × FieldType)} {ws : va_W} {H0 : Heap} (hx : p.tables.exec = Jvm.exec) (hb : c.code = cc) (hts : ∀ w ∈ GW, w.before args s = true) (hown : s.vm.findClass RX2 = some m.cls) (hK : va_K D vwCl tys s) (hP : va_P D vwCl ws H) (hD : va_D A ws) (hS0 : va_S A H0 H locs) (q0 : Nat) {fs : List Value} (he : ws[q0]? = some (a, .inr (3, fs))) {v : Value} (hn : narrow (tyX2 4) v = v) (hfit : fits (tyX2 4) v = true) (hl : 4 < fs.length) (hdg : decode cc pc = .ok (.putfield 23, 3)) (kk : ∀ (H1 : Heap) (locs1 : List Loc), va_P D vwCl (ws.set q0 (a, .inr (3, fs.set 4 v))) H1 → va_D A (ws.set q0 (a, .inr (3, fs.set 4 v))) → va_S A H0 H1 locs1 → W p l e R s m args below meth c H1 locs1 cells slots Q (F0 m (pc + 3) ls rest)) : W p l e R s m args below meth c H locs cells slots Q (F0 m pc ls (v :: .ref a :: rest)) := va_put (C := RX2) (T := TX2) (N := 5) (ci := 3) hx hb hts inX2 tyX2 tkX2 nmX2 hown hK hP hD hS0 q0 he rfl 4 (by decide) (hts _ t157) (fun _ h => h) rfl (tkX2 4 (by decide)) hn hfit hl hdg kk
theorem dX2_read_18 : decode cX2_read 18 = .ok (.aload_n 0, 1) := by decide +kernel
theorem dX2_read_19 : decode cX2_read 19 = .ok (.iconst 0, 1) := by decide +kernel
theorem dX2_read_20 : decode cX2_read 20 = .ok (.putfield 26, 3) := by decide +kernel
theorem t152 : Cond.fieldLink RX2 26 "LikenessPound$ColonyText" "lines" "I" ∈ GW := gw_mem 266 (by decide +kernel) (by decide +kernel)
theorem pf_X2_26 {p : Program} {l : Launch} {e : Env} {R : Room} {s : State} {m : MethodId} {args : Array Value} {below : List Frame} {meth : Method} {c : Code} {H : Heap} {locs : List Loc} {cells slots : Nat} {Q : State → Prop} {cc : ByteArray} {pc : Nat} {ls : Array Slot} {rest : List Value} {D : va_G} {A : Nat → Prop} {a : Nat} {tys : List (ClassId × FieldType)} {ws : va_W} {H0 : Heap} (hx : p.tables.exec = Jvm.exec) (hb : c.code = cc) (hts : ∀ w ∈ GW, w.before args s = true) (hown : s.vm.findClass RX2 = some m.cls) (hK : va_K D vwCl tys s) (hP : va_P D vwCl ws H) (hD : va_D A ws) (hS0 : va_S A H0 H locs) (q0 : Nat) {fs : List Value} (he : ws[q0]? = some (a, .inr (3, fs))) {v : Value} (hn : narrow (tyX2 0) v = v) (hfit : fits (tyX2 0) v = true) (hl : 0 < fs.length) (hdg : decode cc pc = .ok (.putfield 26, 3)) (kk : ∀ (H1 : Heap) (locs1 : List Loc), va_P D vwCl (ws.set q0 (a, .inr (3, fs.set 0 v))) H1 → va_D A (ws.set q0 (a, .inr (3, fs.set 0 v))) → va_S A H0 H1 locs1 → W p l e R s m args below meth c H1 locs1 cells slots Q (F0 m (pc + 3) ls rest)) : W p l e R s m args below meth c H locs cells slots Q (F0 m pc ls (v :: .ref a :: rest)) := va_put (C := RX2) (T := TX2) (N := 5) (ci := 3) hx hb hts inX2 tyX2 tkX2 nmX2 hown hK hP hD hS0 q0 he rfl 0 (by decide) (hts _ t152) (fun _ h => h) rfl (tkX2 0 (by decide)) hn hfit hl hdg kk
theorem dX2_read_23 : decode cX2_read 23 = .ok (.aload_n 1, 1) := by decide +kernel
theorem dX2_read_24 : decode cX2_read 24 = .ok (.sipush 900, 3) := by decide +kernel
theorem dX2_read_27 : decode cX2_read 27 = .ok (.invokevirtual 30, 3) := by decide +kernel
theorem t554 : Cond.methodLink RX2 30 yX8_open ∈ GW := gw_mem 668 (by decide +kernel) (by decide +kernel)
theorem t555 : Cond.instanceMethod yX8_open ∈ GW := gw_mem 669 (by decide +kernel) (by decide +kernel)
theorem t556 : Cond.selects RX8 yX8_open yX8_open ∈ GW := gw_mem 670 (by decide +kernel) (by decide +kernel)
theorem cw_X2_30 {R : Room} {s : State} {args : Array Value} {rm : Room} {mc ms : Nat} (hts : ∀ w ∈ GW, w.before args s = true) (hrc : rm.cells = mc) (hrs : rm.slots = ms) (hR : rm.frames + 1 ≤ R.frames ∧ 8 + (2 + 11) + rm.locals ≤ R.locals) : CallW R s args RX2 RX8 30 yX8_open cX8_open 2 none (wl yX8_open cX8_open 2 none) rm mc ms 1 := cwV 1 hts (gi_V t554 t555 t556 t2 t557) rfl hrc hrs (by decide +kernel) hR
theorem dX2_read_30 : decode cX2_read 30 = .ok (.aload_n 0, 1) := by decide +kernel
theorem dX2_read_31 : decode cX2_read 31 = .ok (.getfield 26, 3) := by decide +kernel
theorem gf_X2_26 {p : Program} {l : Launch} {e : Env} {R : Room} {s : State} {m : MethodId} {args : Array Value} {below : List Frame} {meth : Method} {c : Code} {H : Heap} {locs : List Loc} {cells slots : Nat} {Q : State → Prop} {cc : ByteArray} {pc : Nat} {ls : Array Slot} {rest : List Value} {D : va_G} {a : Nat} {tys : List (ClassId × FieldType)} {ws : va_W} (hx : p.tables.exec = Jvm.exec) (hb : c.code = cc) (hts : ∀ w ∈ GW, w.before args s = true) (hown : s.vm.findClass RX2 = some m.cls) (hK : va_K D vwCl tys s) (hP : va_P D vwCl ws H) (q0 : Nat) {fs : List Value} (he : ws[q0]? = some (a, .inr (3, fs))) {v : Value} (hv : fs[0]? = some v) (hdg : decode cc pc = .ok (.getfield 26, 3)) (kk : W p l e R s m args below meth c H locs cells slots Q (F0 m (pc + 3) ls (v :: rest))) : W p l e R s m args below meth c H locs cells slots Q (F0 m pc ls (.ref a :: rest)) := va_get (C := RX2) (T := TX2) (N := 5) (ci := 3) hx hb hts inX2 hown hK hP q0 he rfl 0 (by decide) (hts _ t152) (fun _ h => h) hv hdg kk
theorem dX2_read_34 : decode cX2_read 34 = .ok (.sipush 940, 3) := by decide +kernel
theorem dX2_read_37 : decode cX2_read 37 = .ok (.if_icmp .ge 45, 3) := by decide +kernel
theorem dX2_read_40 : decode cX2_read 40 = .ok (.aload_n 1, 1) := by decide +kernel
theorem dX2_read_41 : decode cX2_read 41 = .ok (.getfield 36, 3) := by decide +kernel
theorem t101 : Cond.fieldLink RX2 36 "LikenessPound$Tape" "kind" "I" ∈ GW := gw_mem 215 (by decide +kernel) (by decide +kernel)
theorem gf_X2_36 {p : Program} {l : Launch} {e : Env} {R : Room} {s : State} {m : MethodId} {args : Array Value} {below : List Frame} {meth : Method} {c : Code} {H : Heap} {locs : List Loc} {cells slots : Nat} {Q : State → Prop} {cc : ByteArray} {pc : Nat} {ls : Array Slot} {rest : List Value} {D : va_G} {a : Nat} {tys : List (ClassId × FieldType)} {ws : va_W} (hx : p.tables.exec = Jvm.exec) (hb : c.code = cc) (hts : ∀ w ∈ GW, w.before args s = true) (hown : s.vm.findClass RX2 = some m.cls) (hK : va_K D vwCl tys s) (hP : va_P D vwCl ws H) (q0 : Nat) {fs : List Value} (he : ws[q0]? = some (a, .inr (9, fs))) {v : Value} (hv : fs[5]? = some v) (hdg : decode cc pc = .ok (.getfield 36, 3)) (kk : W p l e R s m args below meth c H locs cells slots Q (F0 m (pc + 3) ls (v :: rest))) : W p l e R s m args below meth c H locs cells slots Q (F0 m pc ls (.ref a :: rest)) := va_get (C := RX8) (T := TX8) (N := 12) (ci := 9) hx hb hts inX8 hown hK hP q0 he rfl 5 (by decide) (hts _ t101) (fun _ h => h) hv hdg kk
theorem dX2_read_44 : decode cX2_read 44 = .ok (.iconst 3, 1) := by decide +kernel
theorem dX2_read_45 : decode cX2_read 45 = .ok (.if_icmp .eq 37, 3) := by decide +kernel
theorem dX2_read_82 : decode cX2_read 82 = .ok (.iconst 1, 1) := by decide +kernel
theorem dX2_read_83 : decode cX2_read 83 = .ok (.ireturn, 1) := by decide +kernel
set_option maxHeartbeats 4000000 in
set_option maxRecDepth 100000 in
theorem k_ctread (l : Launch) (dC : Nat → ClassId) (dI : Nat → Nat → Nat) (cy : Nat → ClassId) (sz : Nat) (ad : Nat → Nat) (ai : Nat → Nat → Int32)  : Met l yX2_read (wl yX2_read cX2_read 4 (some .boolean)) ({ frames := 3, cells := 0, slots := 0, locals := 192 }) (Pw (dC, dI) vwCl cy [(ad 4, .inr (3, [.int 0, .int 0, .int 0, .int 0, .int 0])), (ad 1, .inr (9, [.ref (ad 2), .ref (ad 3), .int 0, .int 0, .int 0, .int 0, .int 0, .int 0, .long 0, .int 0, .int 0, .int 0])), (ad 55, .inr (2, [.ref (ad 56), .ref (ad 57), .ref (ad 58), .ref (ad 59), .ref (ad 60), .int 0, .int 0, .int 60, .int 10])), (ad 60, .inl (cy 0, 7, .inl (ai 60))), (ad 61, .inr (5, [.ref (ad 62), .ref (ad 63), .ref (ad 64), .ref (ad 65), .ref (ad 66), .ref (ad 67), .ref (ad 68), .ref (ad 69), .ref (ad 70), .ref (ad 71), .int 0])), (ad 62, .inl (cy 0, 7, .inl (ai 62))), (ad 63, .inl (cy 0, 70, .inl (ai 63))), (ad 64, .inl (cy 0, 49, .inl (ai 64))), (ad 65, .inl (cy 0, 7, .inl (ai 65))), (ad 66, .inl (cy 0, 7, .inl (ai 66))), (ad 67, .inl (cy 0, 7, .inl (ai 67)))] sz [.ref (ad 4), .ref (ad 1), .ref (ad 55), .ref (ad 61)] nE) (Qi (dC, dI) vwCl (fun (r : Int32) (u : Unit) => r = 1) (fun (u : Unit) => [(ad 4, .inr (3, [.int 0, .int 0, .int 0, .int 0, .int 0])), (ad 1, .inr (9, [.ref (ad 2), .ref (ad 3), .int 0, .int 900, .int 0, .int 3, .int 0, .int (-1), .long 0, .int 0, .int 0, .int 0]))]) (va_A [(ad 4, .inr (3, [.int 0, .int 0, .int 0, .int 0, .int 0])), (ad 1, .inr (9, [.ref (ad 2), .ref (ad 3), .int 0, .int 0, .int 0, .int 0, .int 0, .int 0, .long 0, .int 0, .int 0, .int 0])), (ad 55, .inr (2, [.ref (ad 56), .ref (ad 57), .ref (ad 58), .ref (ad 59), .ref (ad 60), .int 0, .int 0, .int 60, .int 10])), (ad 60, .inl (cy 0, 7, .inl (ai 60))), (ad 61, .inr (5, [.ref (ad 62), .ref (ad 63), .ref (ad 64), .ref (ad 65), .ref (ad 66), .ref (ad 67), .ref (ad 68), .ref (ad 69), .ref (ad 70), .ref (ad 71), .int 0])), (ad 62, .inl (cy 0, 7, .inl (ai 62))), (ad 63, .inl (cy 0, 70, .inl (ai 63))), (ad 64, .inl (cy 0, 49, .inl (ai 64))), (ad 65, .inl (cy 0, 7, .inl (ai 65))), (ad 66, .inl (cy 0, 7, .inl (ai 66))), (ad 67, .inl (cy 0, 7, .inl (ai 67)))] sz)) 0 0 (va_A [(ad 4, .inr (3, [.int 0, .int 0, .int 0, .int 0, .int 0])), (ad 1, .inr (9, [.ref (ad 2), .ref (ad 3), .int 0, .int 0, .int 0, .int 0, .int 0, .int 0, .long 0, .int 0, .int 0, .int 0])), (ad 55, .inr (2, [.ref (ad 56), .ref (ad 57), .ref (ad 58), .ref (ad 59), .ref (ad 60), .int 0, .int 0, .int 60, .int 10])), (ad 60, .inl (cy 0, 7, .inl (ai 60))), (ad 61, .inr (5, [.ref (ad 62), .ref (ad 63), .ref (ad 64), .ref (ad 65), .ref (ad 66), .ref (ad 67), .ref (ad 68), .ref (ad 69), .ref (ad 70), .ref (ad 71), .int 0])), (ad 62, .inl (cy 0, 7, .inl (ai 62))), (ad 63, .inl (cy 0, 70, .inl (ai 63))), (ad 64, .inl (cy 0, 49, .inl (ai 64))), (ad 65, .inl (cy 0, 7, .inl (ai 65))), (ad 66, .inl (cy 0, 7, .inl (ai 66))), (ad 67, .inl (cy 0, 7, .inl (ai 67)))] sz) := by
  refine mw (Qc := Qi (dC, dI) vwCl (fun (r : Int32) (u : Unit) => r = 1) (fun (u : Unit) => [(ad 4, .inr (3, [.int 0, .int 0, .int 0, .int 0, .int 0])), (ad 1, .inr (9, [.ref (ad 2), .ref (ad 3), .int 0, .int 900, .int 0, .int 3, .int 0, .int (-1), .long 0, .int 0, .int 0, .int 0]))])) RX2 rfl (by decide +kernel) (Nat.le_of_ble_eq_true rfl) ?_
  intro p e s m below meth c A hx hb hr hlocks av9 hav hts hown hnm hml hK hP hD hA hS hE hAe Q9 hQ9 ls hl
  have hl : lv_has ls 4 [(0, .ref (ad 4)), (1, .ref (ad 1)), (2, .ref (ad 55)), (3, .ref (ad 61))] := hl
  refine lv_aload_n hx hb dX2_read_0 rfl (lv_at hl 2 rfl) ?_
  refine jn_v (wr := [(ad 4, .inr (3, [.int 0, .int 0, .int 0, .int 0, .int 0])), (ad 1, .inr (9, [.ref (ad 2), .ref (ad 3), .int 0, .int 0, .int 0, .int 0, .int 0, .int 0, .long 0, .int 0, .int 0, .int 0])), (ad 61, .inr (5, [.ref (ad 62), .ref (ad 63), .ref (ad 64), .ref (ad 65), .ref (ad 66), .ref (ad 67), .ref (ad 68), .ref (ad 69), .ref (ad 70), .ref (ad 71), .int 0])), (ad 62, .inl (cy 0, 7, .inl (ai 62))), (ad 63, .inl (cy 0, 70, .inl (ai 63))), (ad 64, .inl (cy 0, 49, .inl (ai 64))), (ad 65, .inl (cy 0, 7, .inl (ai 65))), (ad 66, .inl (cy 0, 7, .inl (ai 66))), (ad 67, .inl (cy 0, 7, .inl (ai 67)))]) (rV (As := []) (rest := []) (ci := 2) ⟨hx, hb, hml, hown, hts⟩ (c_Col_clear l dC dI cy _ (ad 55) (ad 56) (ad 57) (ad 58) (ad 59) (ad 60) 0 0 60 10 (ai 60) ) (cw_X2_9 hts rfl rfl ⟨Nat.le_of_ble_eq_true rfl, Nat.le_of_ble_eq_true rfl⟩) hP hD hK [2, 3] rfl rfl rfl rfl bl0 e0 rfl hl.1 rfl (Nat.le_of_ble_eq_true rfl) dX2_read_1 ⟨Nat.le_of_ble_eq_true rfl, Nat.le_of_ble_eq_true rfl⟩) hP hD hS hA [2, 3] [0, 1, 4, 5, 6, 7, 8, 9, 10] rfl rfl rfl (by decide) (fun u_3 H locs hp_2 hP hD hS => ?_)
  obtain ⟨ok_4, rfl⟩ : ∃ z, z = u_3 := ⟨_, rfl⟩
  have hp_2 : True := hp_2
  have hP : va_P (dC, dI) vwCl [(ad 4, .inr (3, [.int 0, .int 0, .int 0, .int 0, .int 0])), (ad 1, .inr (9, [.ref (ad 2), .ref (ad 3), .int 0, .int 0, .int 0, .int 0, .int 0, .int 0, .long 0, .int 0, .int 0, .int 0])), (ad 61, .inr (5, [.ref (ad 62), .ref (ad 63), .ref (ad 64), .ref (ad 65), .ref (ad 66), .ref (ad 67), .ref (ad 68), .ref (ad 69), .ref (ad 70), .ref (ad 71), .int 0])), (ad 62, .inl (cy 0, 7, .inl (ai 62))), (ad 63, .inl (cy 0, 70, .inl (ai 63))), (ad 64, .inl (cy 0, 49, .inl (ai 64))), (ad 65, .inl (cy 0, 7, .inl (ai 65))), (ad 66, .inl (cy 0, 7, .inl (ai 66))), (ad 67, .inl (cy 0, 7, .inl (ai 67))), (ad 55, .inr (2, [.ref (ad 56), .ref (ad 57), .ref (ad 58), .ref (ad 59), .ref (ad 60), .int 0, .int 0, .int 60, .int 10])), (ad 60, .inl (cy 0, 7, .inl ok_4))] H := hP
  have hD : va_D A [(ad 4, .inr (3, [.int 0, .int 0, .int 0, .int 0, .int 0])), (ad 1, .inr (9, [.ref (ad 2), .ref (ad 3), .int 0, .int 0, .int 0, .int 0, .int 0, .int 0, .long 0, .int 0, .int 0, .int 0])), (ad 61, .inr (5, [.ref (ad 62), .ref (ad 63), .ref (ad 64), .ref (ad 65), .ref (ad 66), .ref (ad 67), .ref (ad 68), .ref (ad 69), .ref (ad 70), .ref (ad 71), .int 0])), (ad 62, .inl (cy 0, 7, .inl (ai 62))), (ad 63, .inl (cy 0, 70, .inl (ai 63))), (ad 64, .inl (cy 0, 49, .inl (ai 64))), (ad 65, .inl (cy 0, 7, .inl (ai 65))), (ad 66, .inl (cy 0, 7, .inl (ai 66))), (ad 67, .inl (cy 0, 7, .inl (ai 67))), (ad 55, .inr (2, [.ref (ad 56), .ref (ad 57), .ref (ad 58), .ref (ad 59), .ref (ad 60), .int 0, .int 0, .int 60, .int 10])), (ad 60, .inl (cy 0, 7, .inl ok_4))] := hD
  refine lv_aload_n hx hb dX2_read_4 rfl (lv_at hl 3 rfl) ?_
  refine jn_v (wr := [(ad 4, .inr (3, [.int 0, .int 0, .int 0, .int 0, .int 0])), (ad 1, .inr (9, [.ref (ad 2), .ref (ad 3), .int 0, .int 0, .int 0, .int 0, .int 0, .int 0, .long 0, .int 0, .int 0, .int 0])), (ad 55, .inr (2, [.ref (ad 56), .ref (ad 57), .ref (ad 58), .ref (ad 59), .ref (ad 60), .int 0, .int 0, .int 60, .int 10])), (ad 60, .inl (cy 0, 7, .inl ok_4))]) (rV (As := []) (rest := []) (ci := 5) ⟨hx, hb, hml, hown, hts⟩ (c_Life_clear l dC dI cy _ (ad 61) (ad 62) (ad 63) (ad 64) (ad 65) (ad 66) (ad 67) (ad 68) (ad 69) (ad 70) (ad 71) 0 (ai 62) (ai 63) (ai 64) (ai 65) (ai 66) (ai 67) ) (cw_X2_14 hts rfl rfl ⟨Nat.le_of_ble_eq_true rfl, Nat.le_of_ble_eq_true rfl⟩) hP hD hK [2, 3, 4, 5, 6, 7, 8] rfl rfl rfl rfl bl0 e0 rfl hl.1 rfl (Nat.le_of_ble_eq_true rfl) dX2_read_5 ⟨Nat.le_of_ble_eq_true rfl, Nat.le_of_ble_eq_true rfl⟩) hP hD hS hA [2, 3, 4, 5, 6, 7, 8] [0, 1, 9, 10] rfl rfl rfl (by decide) (fun u_7 H locs hp_6 hP hD hS => ?_)
  obtain ⟨o1_8, o2_9, o3_10, o4_11, o5_12, o6_13⟩ := u_7
  have hp_6 : ∀ j : Nat, j < 7 → o6_13 j = 0 := hp_6
  have hP : va_P (dC, dI) vwCl [(ad 4, .inr (3, [.int 0, .int 0, .int 0, .int 0, .int 0])), (ad 1, .inr (9, [.ref (ad 2), .ref (ad 3), .int 0, .int 0, .int 0, .int 0, .int 0, .int 0, .long 0, .int 0, .int 0, .int 0])), (ad 55, .inr (2, [.ref (ad 56), .ref (ad 57), .ref (ad 58), .ref (ad 59), .ref (ad 60), .int 0, .int 0, .int 60, .int 10])), (ad 60, .inl (cy 0, 7, .inl ok_4)), (ad 61, .inr (5, [.ref (ad 62), .ref (ad 63), .ref (ad 64), .ref (ad 65), .ref (ad 66), .ref (ad 67), .ref (ad 68), .ref (ad 69), .ref (ad 70), .ref (ad 71), .int 0])), (ad 62, .inl (cy 0, 7, .inl o1_8)), (ad 63, .inl (cy 0, 70, .inl o2_9)), (ad 64, .inl (cy 0, 49, .inl o3_10)), (ad 65, .inl (cy 0, 7, .inl o4_11)), (ad 66, .inl (cy 0, 7, .inl o5_12)), (ad 67, .inl (cy 0, 7, .inl o6_13))] H := hP
  have hD : va_D A [(ad 4, .inr (3, [.int 0, .int 0, .int 0, .int 0, .int 0])), (ad 1, .inr (9, [.ref (ad 2), .ref (ad 3), .int 0, .int 0, .int 0, .int 0, .int 0, .int 0, .long 0, .int 0, .int 0, .int 0])), (ad 55, .inr (2, [.ref (ad 56), .ref (ad 57), .ref (ad 58), .ref (ad 59), .ref (ad 60), .int 0, .int 0, .int 60, .int 10])), (ad 60, .inl (cy 0, 7, .inl ok_4)), (ad 61, .inr (5, [.ref (ad 62), .ref (ad 63), .ref (ad 64), .ref (ad 65), .ref (ad 66), .ref (ad 67), .ref (ad 68), .ref (ad 69), .ref (ad 70), .ref (ad 71), .int 0])), (ad 62, .inl (cy 0, 7, .inl o1_8)), (ad 63, .inl (cy 0, 70, .inl o2_9)), (ad 64, .inl (cy 0, 49, .inl o3_10)), (ad 65, .inl (cy 0, 7, .inl o4_11)), (ad 66, .inl (cy 0, 7, .inl o5_12)), (ad 67, .inl (cy 0, 7, .inl o6_13))] := hD
  refine lv_aload_n hx hb dX2_read_8 rfl (lv_at hl 0 rfl) ?_
  refine lv_iconst (v := 0) hx hb dX2_read_9 (by decide) ?_
  refine pf_X2_17 hx hb hts hown hK hP hD hS 0 rfl rfl rfl (Nat.le_of_ble_eq_true rfl) dX2_read_10 (fun H locs hP hD hS => ?_)
  have hP : va_P (dC, dI) vwCl [(ad 4, .inr (3, [.int 0, .int 0, .int 0, .int 0, .int 0])), (ad 1, .inr (9, [.ref (ad 2), .ref (ad 3), .int 0, .int 0, .int 0, .int 0, .int 0, .int 0, .long 0, .int 0, .int 0, .int 0])), (ad 55, .inr (2, [.ref (ad 56), .ref (ad 57), .ref (ad 58), .ref (ad 59), .ref (ad 60), .int 0, .int 0, .int 60, .int 10])), (ad 60, .inl (cy 0, 7, .inl ok_4)), (ad 61, .inr (5, [.ref (ad 62), .ref (ad 63), .ref (ad 64), .ref (ad 65), .ref (ad 66), .ref (ad 67), .ref (ad 68), .ref (ad 69), .ref (ad 70), .ref (ad 71), .int 0])), (ad 62, .inl (cy 0, 7, .inl o1_8)), (ad 63, .inl (cy 0, 70, .inl o2_9)), (ad 64, .inl (cy 0, 49, .inl o3_10)), (ad 65, .inl (cy 0, 7, .inl o4_11)), (ad 66, .inl (cy 0, 7, .inl o5_12)), (ad 67, .inl (cy 0, 7, .inl o6_13))] H := hP
  have hD : va_D A [(ad 4, .inr (3, [.int 0, .int 0, .int 0, .int 0, .int 0])), (ad 1, .inr (9, [.ref (ad 2), .ref (ad 3), .int 0, .int 0, .int 0, .int 0, .int 0, .int 0, .long 0, .int 0, .int 0, .int 0])), (ad 55, .inr (2, [.ref (ad 56), .ref (ad 57), .ref (ad 58), .ref (ad 59), .ref (ad 60), .int 0, .int 0, .int 60, .int 10])), (ad 60, .inl (cy 0, 7, .inl ok_4)), (ad 61, .inr (5, [.ref (ad 62), .ref (ad 63), .ref (ad 64), .ref (ad 65), .ref (ad 66), .ref (ad 67), .ref (ad 68), .ref (ad 69), .ref (ad 70), .ref (ad 71), .int 0])), (ad 62, .inl (cy 0, 7, .inl o1_8)), (ad 63, .inl (cy 0, 70, .inl o2_9)), (ad 64, .inl (cy 0, 49, .inl o3_10)), (ad 65, .inl (cy 0, 7, .inl o4_11)), (ad 66, .inl (cy 0, 7, .inl o5_12)), (ad 67, .inl (cy 0, 7, .inl o6_13))] := hD
  refine lv_aload_n hx hb dX2_read_13 rfl (lv_at hl 0 rfl) ?_
  refine lv_iconst (v := 0) hx hb dX2_read_14 (by decide) ?_
  refine pf_X2_23 hx hb hts hown hK hP hD hS 0 rfl rfl rfl (Nat.le_of_ble_eq_true rfl) dX2_read_15 (fun H locs hP hD hS => ?_)
  have hP : va_P (dC, dI) vwCl [(ad 4, .inr (3, [.int 0, .int 0, .int 0, .int 0, .int 0])), (ad 1, .inr (9, [.ref (ad 2), .ref (ad 3), .int 0, .int 0, .int 0, .int 0, .int 0, .int 0, .long 0, .int 0, .int 0, .int 0])), (ad 55, .inr (2, [.ref (ad 56), .ref (ad 57), .ref (ad 58), .ref (ad 59), .ref (ad 60), .int 0, .int 0, .int 60, .int 10])), (ad 60, .inl (cy 0, 7, .inl ok_4)), (ad 61, .inr (5, [.ref (ad 62), .ref (ad 63), .ref (ad 64), .ref (ad 65), .ref (ad 66), .ref (ad 67), .ref (ad 68), .ref (ad 69), .ref (ad 70), .ref (ad 71), .int 0])), (ad 62, .inl (cy 0, 7, .inl o1_8)), (ad 63, .inl (cy 0, 70, .inl o2_9)), (ad 64, .inl (cy 0, 49, .inl o3_10)), (ad 65, .inl (cy 0, 7, .inl o4_11)), (ad 66, .inl (cy 0, 7, .inl o5_12)), (ad 67, .inl (cy 0, 7, .inl o6_13))] H := hP
  have hD : va_D A [(ad 4, .inr (3, [.int 0, .int 0, .int 0, .int 0, .int 0])), (ad 1, .inr (9, [.ref (ad 2), .ref (ad 3), .int 0, .int 0, .int 0, .int 0, .int 0, .int 0, .long 0, .int 0, .int 0, .int 0])), (ad 55, .inr (2, [.ref (ad 56), .ref (ad 57), .ref (ad 58), .ref (ad 59), .ref (ad 60), .int 0, .int 0, .int 60, .int 10])), (ad 60, .inl (cy 0, 7, .inl ok_4)), (ad 61, .inr (5, [.ref (ad 62), .ref (ad 63), .ref (ad 64), .ref (ad 65), .ref (ad 66), .ref (ad 67), .ref (ad 68), .ref (ad 69), .ref (ad 70), .ref (ad 71), .int 0])), (ad 62, .inl (cy 0, 7, .inl o1_8)), (ad 63, .inl (cy 0, 70, .inl o2_9)), (ad 64, .inl (cy 0, 49, .inl o3_10)), (ad 65, .inl (cy 0, 7, .inl o4_11)), (ad 66, .inl (cy 0, 7, .inl o5_12)), (ad 67, .inl (cy 0, 7, .inl o6_13))] := hD
  refine lv_aload_n hx hb dX2_read_18 rfl (lv_at hl 0 rfl) ?_
  refine lv_iconst (v := 0) hx hb dX2_read_19 (by decide) ?_
  refine pf_X2_26 hx hb hts hown hK hP hD hS 0 rfl rfl rfl (Nat.le_of_ble_eq_true rfl) dX2_read_20 (fun H locs hP hD hS => ?_)
  have hP : va_P (dC, dI) vwCl [(ad 4, .inr (3, [.int 0, .int 0, .int 0, .int 0, .int 0])), (ad 1, .inr (9, [.ref (ad 2), .ref (ad 3), .int 0, .int 0, .int 0, .int 0, .int 0, .int 0, .long 0, .int 0, .int 0, .int 0])), (ad 55, .inr (2, [.ref (ad 56), .ref (ad 57), .ref (ad 58), .ref (ad 59), .ref (ad 60), .int 0, .int 0, .int 60, .int 10])), (ad 60, .inl (cy 0, 7, .inl ok_4)), (ad 61, .inr (5, [.ref (ad 62), .ref (ad 63), .ref (ad 64), .ref (ad 65), .ref (ad 66), .ref (ad 67), .ref (ad 68), .ref (ad 69), .ref (ad 70), .ref (ad 71), .int 0])), (ad 62, .inl (cy 0, 7, .inl o1_8)), (ad 63, .inl (cy 0, 70, .inl o2_9)), (ad 64, .inl (cy 0, 49, .inl o3_10)), (ad 65, .inl (cy 0, 7, .inl o4_11)), (ad 66, .inl (cy 0, 7, .inl o5_12)), (ad 67, .inl (cy 0, 7, .inl o6_13))] H := hP
  have hD : va_D A [(ad 4, .inr (3, [.int 0, .int 0, .int 0, .int 0, .int 0])), (ad 1, .inr (9, [.ref (ad 2), .ref (ad 3), .int 0, .int 0, .int 0, .int 0, .int 0, .int 0, .long 0, .int 0, .int 0, .int 0])), (ad 55, .inr (2, [.ref (ad 56), .ref (ad 57), .ref (ad 58), .ref (ad 59), .ref (ad 60), .int 0, .int 0, .int 60, .int 10])), (ad 60, .inl (cy 0, 7, .inl ok_4)), (ad 61, .inr (5, [.ref (ad 62), .ref (ad 63), .ref (ad 64), .ref (ad 65), .ref (ad 66), .ref (ad 67), .ref (ad 68), .ref (ad 69), .ref (ad 70), .ref (ad 71), .int 0])), (ad 62, .inl (cy 0, 7, .inl o1_8)), (ad 63, .inl (cy 0, 70, .inl o2_9)), (ad 64, .inl (cy 0, 49, .inl o3_10)), (ad 65, .inl (cy 0, 7, .inl o4_11)), (ad 66, .inl (cy 0, 7, .inl o5_12)), (ad 67, .inl (cy 0, 7, .inl o6_13))] := hD
  refine lv_aload_n hx hb dX2_read_23 rfl (lv_at hl 1 rfl) ?_
  refine lv_sipush (v := 900) hx hb dX2_read_24 (by decide) ?_
  refine jn_v (wr := [(ad 4, .inr (3, [.int 0, .int 0, .int 0, .int 0, .int 0])), (ad 55, .inr (2, [.ref (ad 56), .ref (ad 57), .ref (ad 58), .ref (ad 59), .ref (ad 60), .int 0, .int 0, .int 60, .int 10])), (ad 60, .inl (cy 0, 7, .inl ok_4)), (ad 61, .inr (5, [.ref (ad 62), .ref (ad 63), .ref (ad 64), .ref (ad 65), .ref (ad 66), .ref (ad 67), .ref (ad 68), .ref (ad 69), .ref (ad 70), .ref (ad 71), .int 0])), (ad 62, .inl (cy 0, 7, .inl o1_8)), (ad 63, .inl (cy 0, 70, .inl o2_9)), (ad 64, .inl (cy 0, 49, .inl o3_10)), (ad 65, .inl (cy 0, 7, .inl o4_11)), (ad 66, .inl (cy 0, 7, .inl o5_12)), (ad 67, .inl (cy 0, 7, .inl o6_13))]) (rV (As := [.int 900]) (rest := []) (ci := 9) ⟨hx, hb, hml, hown, hts⟩ (k_open900 l dC dI cy _ ad ) (cw_X2_30 hts rfl rfl ⟨Nat.le_of_ble_eq_true rfl, Nat.le_of_ble_eq_true rfl⟩) hP hD hK [1] rfl rfl rfl rfl bl0 e0 rfl hl.1 rfl (Nat.le_of_ble_eq_true rfl) dX2_read_27 ⟨Nat.le_of_ble_eq_true rfl, Nat.le_of_ble_eq_true rfl⟩) hP hD hS hA [1] [0, 2, 3, 4, 5, 6, 7, 8, 9, 10] rfl rfl rfl (by decide) (fun u_16 H locs hp_15 hP hD hS => ?_)
  have hp_15 : True := hp_15
  have hP : va_P (dC, dI) vwCl [(ad 4, .inr (3, [.int 0, .int 0, .int 0, .int 0, .int 0])), (ad 55, .inr (2, [.ref (ad 56), .ref (ad 57), .ref (ad 58), .ref (ad 59), .ref (ad 60), .int 0, .int 0, .int 60, .int 10])), (ad 60, .inl (cy 0, 7, .inl ok_4)), (ad 61, .inr (5, [.ref (ad 62), .ref (ad 63), .ref (ad 64), .ref (ad 65), .ref (ad 66), .ref (ad 67), .ref (ad 68), .ref (ad 69), .ref (ad 70), .ref (ad 71), .int 0])), (ad 62, .inl (cy 0, 7, .inl o1_8)), (ad 63, .inl (cy 0, 70, .inl o2_9)), (ad 64, .inl (cy 0, 49, .inl o3_10)), (ad 65, .inl (cy 0, 7, .inl o4_11)), (ad 66, .inl (cy 0, 7, .inl o5_12)), (ad 67, .inl (cy 0, 7, .inl o6_13)), (ad 1, .inr (9, [.ref (ad 2), .ref (ad 3), .int 0, .int 900, .int 0, .int 3, .int 0, .int (-1), .long 0, .int 0, .int 0, .int 0]))] H := hP
  have hD : va_D A [(ad 4, .inr (3, [.int 0, .int 0, .int 0, .int 0, .int 0])), (ad 55, .inr (2, [.ref (ad 56), .ref (ad 57), .ref (ad 58), .ref (ad 59), .ref (ad 60), .int 0, .int 0, .int 60, .int 10])), (ad 60, .inl (cy 0, 7, .inl ok_4)), (ad 61, .inr (5, [.ref (ad 62), .ref (ad 63), .ref (ad 64), .ref (ad 65), .ref (ad 66), .ref (ad 67), .ref (ad 68), .ref (ad 69), .ref (ad 70), .ref (ad 71), .int 0])), (ad 62, .inl (cy 0, 7, .inl o1_8)), (ad 63, .inl (cy 0, 70, .inl o2_9)), (ad 64, .inl (cy 0, 49, .inl o3_10)), (ad 65, .inl (cy 0, 7, .inl o4_11)), (ad 66, .inl (cy 0, 7, .inl o5_12)), (ad 67, .inl (cy 0, 7, .inl o6_13)), (ad 1, .inr (9, [.ref (ad 2), .ref (ad 3), .int 0, .int 900, .int 0, .int 3, .int 0, .int (-1), .long 0, .int 0, .int 0, .int 0]))] := hD
  refine lv_aload_n hx hb dX2_read_30 rfl (lv_at hl 0 rfl) ?_
  refine gf_X2_26 hx hb hts hown hK hP 0 rfl rfl dX2_read_31 ?_
  refine lv_sipush (v := 940) hx hb dX2_read_34 (by decide) ?_
  refine lv_icmp_ge (tgt := 82) hx hb dX2_read_37 (by decide) (fun c9 => absurd c9 (by decide)) (fun _ => ?_)
  refine lv_aload_n hx hb dX2_read_40 rfl (lv_at hl 1 rfl) ?_
  refine gf_X2_36 hx hb hts hown hK hP 10 rfl rfl dX2_read_41 ?_
  refine lv_iconst (v := 3) hx hb dX2_read_44 (by decide) ?_
  refine lv_icmp_eq (tgt := 82) hx hb dX2_read_45 (by decide) (fun _ => ?_) (fun c9 => absurd (by decide) c9)
  refine lv_iconst (v := 1) hx hb dX2_read_82 (by decide) ?_
  rw [hQ9]
  exact re_z () hx hb hr hlocks (Or.inr rfl) rfl (hP.sub [0, 10] rfl) (hD.sub [0, 10] rfl rfl) hS dX2_read_83
abbrev cX6_clear : ByteArray := prog_8_method_2_code
def yX6_clear : MethodName := ⟨RX6, "clear", "()V"⟩
theorem t660 : Cond.code yX6_clear cX6_clear 1 none ∈ GW := gw_mem 774 (by decide +kernel) (by decide +kernel)
theorem dX6_clear_0 : decode cX6_clear 0 = .ok (.aload_n 0, 1) := by decide +kernel
theorem dX6_clear_1 : decode cX6_clear 1 = .ok (.iconst 0, 1) := by decide +kernel
theorem dX6_clear_2 : decode cX6_clear 2 = .ok (.putfield 24, 3) := by decide +kernel
theorem t443 : Cond.fieldLink RX6 24 "LikenessPound$Sentence" "steps" "I" ∈ GW := gw_mem 557 (by decide +kernel) (by decide +kernel)
theorem pf_X6_24 {p : Program} {l : Launch} {e : Env} {R : Room} {s : State} {m : MethodId} {args : Array Value} {below : List Frame} {meth : Method} {c : Code} {H : Heap} {locs : List Loc} {cells slots : Nat} {Q : State → Prop} {cc : ByteArray} {pc : Nat} {ls : Array Slot} {rest : List Value} {D : va_G} {A : Nat → Prop} {a : Nat} {tys : List (ClassId × FieldType)} {ws : va_W} {H0 : Heap} (hx : p.tables.exec = Jvm.exec) (hb : c.code = cc) (hts : ∀ w ∈ GW, w.before args s = true) (hown : s.vm.findClass RX6 = some m.cls) (hK : va_K D vwCl tys s) (hP : va_P D vwCl ws H) (hD : va_D A ws) (hS0 : va_S A H0 H locs) (q0 : Nat) {fs : List Value} (he : ws[q0]? = some (a, .inr (7, fs))) {v : Value} (hn : narrow (tyX6 4) v = v) (hfit : fits (tyX6 4) v = true) (hl : 4 < fs.length) (hdg : decode cc pc = .ok (.putfield 24, 3)) (kk : ∀ (H1 : Heap) (locs1 : List Loc), va_P D vwCl (ws.set q0 (a, .inr (7, fs.set 4 v))) H1 → va_D A (ws.set q0 (a, .inr (7, fs.set 4 v))) → va_S A H0 H1 locs1 → W p l e R s m args below meth c H1 locs1 cells slots Q (F0 m (pc + 3) ls rest)) : W p l e R s m args below meth c H locs cells slots Q (F0 m pc ls (v :: .ref a :: rest)) := va_put (C := RX6) (T := TX6) (N := 6) (ci := 7) hx hb hts inX6 tyX6 tkX6 nmX6 hown hK hP hD hS0 q0 he rfl 4 (by decide) (hts _ t443) (fun _ h => h) rfl (tkX6 4 (by decide)) hn hfit hl hdg kk
theorem dX6_clear_5 : decode cX6_clear 5 = .ok (.aload_n 0, 1) := by decide +kernel
theorem dX6_clear_6 : decode cX6_clear 6 = .ok (.iconst 0, 1) := by decide +kernel
theorem dX6_clear_7 : decode cX6_clear 7 = .ok (.putfield 28, 3) := by decide +kernel
theorem t444 : Cond.fieldLink RX6 28 "LikenessPound$Sentence" "ones" "I" ∈ GW := gw_mem 558 (by decide +kernel) (by decide +kernel)
theorem pf_X6_28 {p : Program} {l : Launch} {e : Env} {R : Room} {s : State} {m : MethodId} {args : Array Value} {below : List Frame} {meth : Method} {c : Code} {H : Heap} {locs : List Loc} {cells slots : Nat} {Q : State → Prop} {cc : ByteArray} {pc : Nat} {ls : Array Slot} {rest : List Value} {D : va_G} {A : Nat → Prop} {a : Nat} {tys : List (ClassId × FieldType)} {ws : va_W} {H0 : Heap} (hx : p.tables.exec = Jvm.exec) (hb : c.code = cc) (hts : ∀ w ∈ GW, w.before args s = true) (hown : s.vm.findClass RX6 = some m.cls) (hK : va_K D vwCl tys s) (hP : va_P D vwCl ws H) (hD : va_D A ws) (hS0 : va_S A H0 H locs) (q0 : Nat) {fs : List Value} (he : ws[q0]? = some (a, .inr (7, fs))) {v : Value} (hn : narrow (tyX6 5) v = v) (hfit : fits (tyX6 5) v = true) (hl : 5 < fs.length) (hdg : decode cc pc = .ok (.putfield 28, 3)) (kk : ∀ (H1 : Heap) (locs1 : List Loc), va_P D vwCl (ws.set q0 (a, .inr (7, fs.set 5 v))) H1 → va_D A (ws.set q0 (a, .inr (7, fs.set 5 v))) → va_S A H0 H1 locs1 → W p l e R s m args below meth c H1 locs1 cells slots Q (F0 m (pc + 3) ls rest)) : W p l e R s m args below meth c H locs cells slots Q (F0 m pc ls (v :: .ref a :: rest)) := va_put (C := RX6) (T := TX6) (N := 6) (ci := 7) hx hb hts inX6 tyX6 tkX6 nmX6 hown hK hP hD hS0 q0 he rfl 5 (by decide) (hts _ t444) (fun _ h => h) rfl (tkX6 5 (by decide)) hn hfit hl hdg kk
theorem dX6_clear_10 : decode cX6_clear 10 = .ok (.return_, 1) := by decide +kernel
set_option maxHeartbeats 4000000 in
set_option maxRecDepth 100000 in
theorem k_seclear (l : Launch) (dC : Nat → ClassId) (dI : Nat → Nat → Nat) (cy : Nat → ClassId) (sz : Nat) (h0 : Nat) (a1 : Nat) (a2 : Nat) (a3 : Nat) (a4 : Nat) (x1 : Int32) (x2 : Int32)  : Met l yX6_clear (wl yX6_clear cX6_clear 1 none) ({ frames := 0, cells := 0, slots := 0, locals := 0 }) (Pw (dC, dI) vwCl cy [(h0, .inr (7, [.ref a1, .ref a2, .ref a3, .ref a4, .int x1, .int x2]))] sz [.ref h0] nE) (Qv (dC, dI) vwCl (fun (u : Unit) => True) (fun (u : Unit) => [(h0, .inr (7, [.ref a1, .ref a2, .ref a3, .ref a4, .int 0, .int 0]))]) (va_A [(h0, .inr (7, [.ref a1, .ref a2, .ref a3, .ref a4, .int x1, .int x2]))] sz)) 0 0 (va_A [(h0, .inr (7, [.ref a1, .ref a2, .ref a3, .ref a4, .int x1, .int x2]))] sz) := by
  refine mw (Qc := Qv (dC, dI) vwCl (fun (u : Unit) => True) (fun (u : Unit) => [(h0, .inr (7, [.ref a1, .ref a2, .ref a3, .ref a4, .int 0, .int 0]))])) RX6 rfl (by decide +kernel) (Nat.le_of_ble_eq_true rfl) ?_
  intro p e s m below meth c A hx hb hr hlocks av9 hav hts hown hnm hml hK hP hD hA hS hE hAe Q9 hQ9 ls hl
  have hl : lv_has ls 1 [(0, .ref h0)] := hl
  refine lv_aload_n hx hb dX6_clear_0 rfl (lv_at hl 0 rfl) ?_
  refine lv_iconst (v := 0) hx hb dX6_clear_1 (by decide) ?_
  refine pf_X6_24 hx hb hts hown hK hP hD hS 0 rfl rfl rfl (Nat.le_of_ble_eq_true rfl) dX6_clear_2 (fun H locs hP hD hS => ?_)
  have hP : va_P (dC, dI) vwCl [(h0, .inr (7, [.ref a1, .ref a2, .ref a3, .ref a4, .int 0, .int x2]))] H := hP
  have hD : va_D A [(h0, .inr (7, [.ref a1, .ref a2, .ref a3, .ref a4, .int 0, .int x2]))] := hD
  refine lv_aload_n hx hb dX6_clear_5 rfl (lv_at hl 0 rfl) ?_
  refine lv_iconst (v := 0) hx hb dX6_clear_6 (by decide) ?_
  refine pf_X6_28 hx hb hts hown hK hP hD hS 0 rfl rfl rfl (Nat.le_of_ble_eq_true rfl) dX6_clear_7 (fun H locs hP hD hS => ?_)
  have hP : va_P (dC, dI) vwCl [(h0, .inr (7, [.ref a1, .ref a2, .ref a3, .ref a4, .int 0, .int 0]))] H := hP
  have hD : va_D A [(h0, .inr (7, [.ref a1, .ref a2, .ref a3, .ref a4, .int 0, .int 0]))] := hD
  rw [hQ9]
  exact re_v () hx hb hr hlocks trivial (hP.sub [0] rfl) (hD.sub [0] rfl rfl) hS dX6_clear_10
abbrev cX5_clear : ByteArray := prog_7_method_2_code
def yX5_clear : MethodName := ⟨RX5, "clear", "()V"⟩
theorem t664 : Cond.code yX5_clear cX5_clear 1 none ∈ GW := gw_mem 778 (by decide +kernel) (by decide +kernel)
theorem dX5_clear_0 : decode cX5_clear 0 = .ok (.aload_n 0, 1) := by decide +kernel
theorem dX5_clear_1 : decode cX5_clear 1 = .ok (.iconst 0, 1) := by decide +kernel
theorem dX5_clear_2 : decode cX5_clear 2 = .ok (.putfield 18, 3) := by decide +kernel
theorem pf_X5_18 {p : Program} {l : Launch} {e : Env} {R : Room} {s : State} {m : MethodId} {args : Array Value} {below : List Frame} {meth : Method} {c : Code} {H : Heap} {locs : List Loc} {cells slots : Nat} {Q : State → Prop} {cc : ByteArray} {pc : Nat} {ls : Array Slot} {rest : List Value} {D : va_G} {A : Nat → Prop} {a : Nat} {tys : List (ClassId × FieldType)} {ws : va_W} {H0 : Heap} (hx : p.tables.exec = Jvm.exec) (hb : c.code = cc) (hts : ∀ w ∈ GW, w.before args s = true) (hown : s.vm.findClass RX5 = some m.cls) (hK : va_K D vwCl tys s) (hP : va_P D vwCl ws H) (hD : va_D A ws) (hS0 : va_S A H0 H locs) (q0 : Nat) {fs : List Value} (he : ws[q0]? = some (a, .inr (6, fs))) {v : Value} (hn : narrow (tyX5 1) v = v) (hfit : fits (tyX5 1) v = true) (hl : 1 < fs.length) (hdg : decode cc pc = .ok (.putfield 18, 3)) (kk : ∀ (H1 : Heap) (locs1 : List Loc), va_P D vwCl (ws.set q0 (a, .inr (6, fs.set 1 v))) H1 → va_D A (ws.set q0 (a, .inr (6, fs.set 1 v))) → va_S A H0 H1 locs1 → W p l e R s m args below meth c H1 locs1 cells slots Q (F0 m (pc + 3) ls rest)) : W p l e R s m args below meth c H locs cells slots Q (F0 m pc ls (v :: .ref a :: rest)) := va_put (C := RX5) (T := TX5) (N := 3) (ci := 6) hx hb hts inX5 tyX5 tkX5 nmX5 hown hK hP hD hS0 q0 he rfl 1 (by decide) (hts _ t294) (fun _ h => h) rfl (tkX5 1 (by decide)) hn hfit hl hdg kk
theorem dX5_clear_5 : decode cX5_clear 5 = .ok (.return_, 1) := by decide +kernel
set_option maxHeartbeats 4000000 in
set_option maxRecDepth 100000 in
theorem k_paclear (l : Launch) (dC : Nat → ClassId) (dI : Nat → Nat → Nat) (cy : Nat → ClassId) (sz : Nat) (h0 : Nat) (a1 : Nat) (x1 : Int32) (x2 : Int32)  : Met l yX5_clear (wl yX5_clear cX5_clear 1 none) ({ frames := 0, cells := 0, slots := 0, locals := 0 }) (Pw (dC, dI) vwCl cy [(h0, .inr (6, [.ref a1, .int x1, .int x2]))] sz [.ref h0] nE) (Qv (dC, dI) vwCl (fun (u : Unit) => True) (fun (u : Unit) => [(h0, .inr (6, [.ref a1, .int 0, .int x2]))]) (va_A [(h0, .inr (6, [.ref a1, .int x1, .int x2]))] sz)) 0 0 (va_A [(h0, .inr (6, [.ref a1, .int x1, .int x2]))] sz) := by
  refine mw (Qc := Qv (dC, dI) vwCl (fun (u : Unit) => True) (fun (u : Unit) => [(h0, .inr (6, [.ref a1, .int 0, .int x2]))])) RX5 rfl (by decide +kernel) (Nat.le_of_ble_eq_true rfl) ?_
  intro p e s m below meth c A hx hb hr hlocks av9 hav hts hown hnm hml hK hP hD hA hS hE hAe Q9 hQ9 ls hl
  have hl : lv_has ls 1 [(0, .ref h0)] := hl
  refine lv_aload_n hx hb dX5_clear_0 rfl (lv_at hl 0 rfl) ?_
  refine lv_iconst (v := 0) hx hb dX5_clear_1 (by decide) ?_
  refine pf_X5_18 hx hb hts hown hK hP hD hS 0 rfl rfl rfl (Nat.le_of_ble_eq_true rfl) dX5_clear_2 (fun H locs hP hD hS => ?_)
  have hP : va_P (dC, dI) vwCl [(h0, .inr (6, [.ref a1, .int 0, .int x2]))] H := hP
  have hD : va_D A [(h0, .inr (6, [.ref a1, .int 0, .int x2]))] := hD
  rw [hQ9]
  exact re_v () hx hb hr hlocks trivial (hP.sub [0] rfl) (hD.sub [0] rfl rfl) hS dX5_clear_5
abbrev cX10_colony : ByteArray := prog_1_method_4_code
def yX10_colony : MethodName := ⟨RX10, "colony", "()I"⟩
theorem t544 : Cond.code yX10_colony cX10_colony 3 (some .int) ∈ GW := gw_mem 658 (by decide +kernel) (by decide +kernel)
theorem dX10_colony_0 : decode cX10_colony 0 = .ok (.aload_n 0, 1) := by decide +kernel
theorem dX10_colony_1 : decode cX10_colony 1 = .ok (.getfield 19, 3) := by decide +kernel
theorem t478 : Cond.fieldLink RX10 19 "LikenessPound" "colonyText" "LLikenessPound$ColonyText;" ∈ GW := gw_mem 592 (by decide +kernel) (by decide +kernel)
theorem gf_X10_19 {p : Program} {l : Launch} {e : Env} {R : Room} {s : State} {m : MethodId} {args : Array Value} {below : List Frame} {meth : Method} {c : Code} {H : Heap} {locs : List Loc} {cells slots : Nat} {Q : State → Prop} {cc : ByteArray} {pc : Nat} {ls : Array Slot} {rest : List Value} {D : va_G} {a : Nat} {tys : List (ClassId × FieldType)} {ws : va_W} (hx : p.tables.exec = Jvm.exec) (hb : c.code = cc) (hts : ∀ w ∈ GW, w.before args s = true) (hown : s.vm.findClass RX10 = some m.cls) (hK : va_K D vwCl tys s) (hP : va_P D vwCl ws H) (q0 : Nat) {fs : List Value} (he : ws[q0]? = some (a, .inr (11, fs))) {v : Value} (hv : fs[1]? = some v) (hdg : decode cc pc = .ok (.getfield 19, 3)) (kk : W p l e R s m args below meth c H locs cells slots Q (F0 m (pc + 3) ls (v :: rest))) : W p l e R s m args below meth c H locs cells slots Q (F0 m pc ls (.ref a :: rest)) := va_get (C := RX10) (T := TX10) (N := 17) (ci := 11) hx hb hts inX10 hown hK hP q0 he rfl 1 (by decide) (hts _ t478) (fun _ h => h) hv hdg kk
theorem dX10_colony_4 : decode cX10_colony 4 = .ok (.aload_n 0, 1) := by decide +kernel
theorem dX10_colony_5 : decode cX10_colony 5 = .ok (.getfield 10, 3) := by decide +kernel
theorem dX10_colony_8 : decode cX10_colony 8 = .ok (.aload_n 0, 1) := by decide +kernel
theorem dX10_colony_9 : decode cX10_colony 9 = .ok (.getfield 80, 3) := by decide +kernel
theorem t489 : Cond.fieldLink RX10 80 "LikenessPound" "draft" "LLikenessPound$World;" ∈ GW := gw_mem 603 (by decide +kernel) (by decide +kernel)
theorem gf_X10_80 {p : Program} {l : Launch} {e : Env} {R : Room} {s : State} {m : MethodId} {args : Array Value} {below : List Frame} {meth : Method} {c : Code} {H : Heap} {locs : List Loc} {cells slots : Nat} {Q : State → Prop} {cc : ByteArray} {pc : Nat} {ls : Array Slot} {rest : List Value} {D : va_G} {a : Nat} {tys : List (ClassId × FieldType)} {ws : va_W} (hx : p.tables.exec = Jvm.exec) (hb : c.code = cc) (hts : ∀ w ∈ GW, w.before args s = true) (hown : s.vm.findClass RX10 = some m.cls) (hK : va_K D vwCl tys s) (hP : va_P D vwCl ws H) (q0 : Nat) {fs : List Value} (he : ws[q0]? = some (a, .inr (11, fs))) {v : Value} (hv : fs[12]? = some v) (hdg : decode cc pc = .ok (.getfield 80, 3)) (kk : W p l e R s m args below meth c H locs cells slots Q (F0 m (pc + 3) ls (v :: rest))) : W p l e R s m args below meth c H locs cells slots Q (F0 m pc ls (.ref a :: rest)) := va_get (C := RX10) (T := TX10) (N := 17) (ci := 11) hx hb hts inX10 hown hK hP q0 he rfl 12 (by decide) (hts _ t489) (fun _ h => h) hv hdg kk
theorem dX10_colony_12 : decode cX10_colony 12 = .ok (.getfield 94, 3) := by decide +kernel
theorem dX10_colony_15 : decode cX10_colony 15 = .ok (.aload_n 0, 1) := by decide +kernel
theorem dX10_colony_16 : decode cX10_colony 16 = .ok (.getfield 80, 3) := by decide +kernel
theorem dX10_colony_19 : decode cX10_colony 19 = .ok (.getfield 98, 3) := by decide +kernel
theorem dX10_colony_22 : decode cX10_colony 22 = .ok (.invokevirtual 102, 3) := by decide +kernel
theorem t545 : Cond.methodLink RX10 102 yX2_read ∈ GW := gw_mem 659 (by decide +kernel) (by decide +kernel)
theorem t7 : Cond.initialized RX2 ∈ GW := gw_mem 121 (by decide +kernel) (by decide +kernel)
theorem t546 : Cond.instanceMethod yX2_read ∈ GW := gw_mem 660 (by decide +kernel) (by decide +kernel)
theorem t547 : Cond.selects RX2 yX2_read yX2_read ∈ GW := gw_mem 661 (by decide +kernel) (by decide +kernel)
theorem cw_X10_102 {R : Room} {s : State} {args : Array Value} {rm : Room} {mc ms : Nat} (hts : ∀ w ∈ GW, w.before args s = true) (hrc : rm.cells = mc) (hrs : rm.slots = ms) (hR : rm.frames + 1 ≤ R.frames ∧ 8 + (4 + 11) + rm.locals ≤ R.locals) : CallW R s args RX10 RX2 102 yX2_read cX2_read 4 (some .boolean) (wl yX2_read cX2_read 4 (some .boolean)) rm mc ms 3 := cwV 3 hts (gi_V t545 t546 t547 t7 t548) rfl hrc hrs (by decide +kernel) hR
theorem dX10_colony_25 : decode cX10_colony 25 = .ok (.istore_n 1, 1) := by decide +kernel
theorem dX10_colony_26 : decode cX10_colony 26 = .ok (.aload_n 0, 1) := by decide +kernel
theorem dX10_colony_27 : decode cX10_colony 27 = .ok (.getfield 10, 3) := by decide +kernel
theorem dX10_colony_30 : decode cX10_colony 30 = .ok (.iconst 0, 1) := by decide +kernel
theorem dX10_colony_31 : decode cX10_colony 31 = .ok (.putfield 87, 3) := by decide +kernel
theorem dX10_colony_34 : decode cX10_colony 34 = .ok (.aload_n 0, 1) := by decide +kernel
theorem dX10_colony_35 : decode cX10_colony 35 = .ok (.aload_n 0, 1) := by decide +kernel
theorem dX10_colony_36 : decode cX10_colony 36 = .ok (.getfield 10, 3) := by decide +kernel
theorem dX10_colony_39 : decode cX10_colony 39 = .ok (.getfield 106, 3) := by decide +kernel
theorem t115 : Cond.fieldLink RX10 106 "LikenessPound$Tape" "faultKind" "I" ∈ GW := gw_mem 229 (by decide +kernel) (by decide +kernel)
theorem gf_X10_106 {p : Program} {l : Launch} {e : Env} {R : Room} {s : State} {m : MethodId} {args : Array Value} {below : List Frame} {meth : Method} {c : Code} {H : Heap} {locs : List Loc} {cells slots : Nat} {Q : State → Prop} {cc : ByteArray} {pc : Nat} {ls : Array Slot} {rest : List Value} {D : va_G} {a : Nat} {tys : List (ClassId × FieldType)} {ws : va_W} (hx : p.tables.exec = Jvm.exec) (hb : c.code = cc) (hts : ∀ w ∈ GW, w.before args s = true) (hown : s.vm.findClass RX10 = some m.cls) (hK : va_K D vwCl tys s) (hP : va_P D vwCl ws H) (q0 : Nat) {fs : List Value} (he : ws[q0]? = some (a, .inr (9, fs))) {v : Value} (hv : fs[10]? = some v) (hdg : decode cc pc = .ok (.getfield 106, 3)) (kk : W p l e R s m args below meth c H locs cells slots Q (F0 m (pc + 3) ls (v :: rest))) : W p l e R s m args below meth c H locs cells slots Q (F0 m pc ls (.ref a :: rest)) := va_get (C := RX8) (T := TX8) (N := 12) (ci := 9) hx hb hts inX8 hown hK hP q0 he rfl 10 (by decide) (hts _ t115) (fun _ h => h) hv hdg kk
theorem dX10_colony_42 : decode cX10_colony 42 = .ok (.putfield 109, 3) := by decide +kernel
theorem pf_X10_109 {p : Program} {l : Launch} {e : Env} {R : Room} {s : State} {m : MethodId} {args : Array Value} {below : List Frame} {meth : Method} {c : Code} {H : Heap} {locs : List Loc} {cells slots : Nat} {Q : State → Prop} {cc : ByteArray} {pc : Nat} {ls : Array Slot} {rest : List Value} {D : va_G} {A : Nat → Prop} {a : Nat} {tys : List (ClassId × FieldType)} {ws : va_W} {H0 : Heap} (hx : p.tables.exec = Jvm.exec) (hb : c.code = cc) (hts : ∀ w ∈ GW, w.before args s = true) (hown : s.vm.findClass RX10 = some m.cls) (hK : va_K D vwCl tys s) (hP : va_P D vwCl ws H) (hD : va_D A ws) (hS0 : va_S A H0 H locs) (q0 : Nat) {fs : List Value} (he : ws[q0]? = some (a, .inr (11, fs))) {v : Value} (hn : narrow (tyX10 13) v = v) (hfit : fits (tyX10 13) v = true) (hl : 13 < fs.length) (hdg : decode cc pc = .ok (.putfield 109, 3)) (kk : ∀ (H1 : Heap) (locs1 : List Loc), va_P D vwCl (ws.set q0 (a, .inr (11, fs.set 13 v))) H1 → va_D A (ws.set q0 (a, .inr (11, fs.set 13 v))) → va_S A H0 H1 locs1 → W p l e R s m args below meth c H1 locs1 cells slots Q (F0 m (pc + 3) ls rest)) : W p l e R s m args below meth c H locs cells slots Q (F0 m pc ls (v :: .ref a :: rest)) := va_put (C := RX10) (T := TX10) (N := 17) (ci := 11) hx hb hts inX10 tyX10 tkX10 nmX10 hown hK hP hD hS0 q0 he rfl 13 (by decide) (hts _ t490) (fun _ h => h) rfl (tkX10 13 (by decide)) hn hfit hl hdg kk
theorem dX10_colony_45 : decode cX10_colony 45 = .ok (.iload_n 1, 1) := by decide +kernel
theorem dX10_colony_46 : decode cX10_colony 46 = .ok (.ifCond .ne 13, 3) := by decide +kernel
theorem dX10_colony_59 : decode cX10_colony 59 = .ok (.aload_n 0, 1) := by decide +kernel
theorem dX10_colony_60 : decode cX10_colony 60 = .ok (.getfield 76, 3) := by decide +kernel
theorem dX10_colony_63 : decode cX10_colony 63 = .ok (.astore_n 2, 1) := by decide +kernel
theorem dX10_colony_64 : decode cX10_colony 64 = .ok (.aload_n 0, 1) := by decide +kernel
theorem dX10_colony_65 : decode cX10_colony 65 = .ok (.aload_n 0, 1) := by decide +kernel
theorem dX10_colony_66 : decode cX10_colony 66 = .ok (.getfield 80, 3) := by decide +kernel
theorem dX10_colony_69 : decode cX10_colony 69 = .ok (.putfield 76, 3) := by decide +kernel
theorem pf_X10_76 {p : Program} {l : Launch} {e : Env} {R : Room} {s : State} {m : MethodId} {args : Array Value} {below : List Frame} {meth : Method} {c : Code} {H : Heap} {locs : List Loc} {cells slots : Nat} {Q : State → Prop} {cc : ByteArray} {pc : Nat} {ls : Array Slot} {rest : List Value} {D : va_G} {A : Nat → Prop} {a : Nat} {tys : List (ClassId × FieldType)} {ws : va_W} {H0 : Heap} (hx : p.tables.exec = Jvm.exec) (hb : c.code = cc) (hts : ∀ w ∈ GW, w.before args s = true) (hown : s.vm.findClass RX10 = some m.cls) (hK : va_K D vwCl tys s) (hP : va_P D vwCl ws H) (hD : va_D A ws) (hS0 : va_S A H0 H locs) (q0 : Nat) {fs : List Value} (he : ws[q0]? = some (a, .inr (11, fs))) {v : Value} (hn : narrow (tyX10 11) v = v) (hfit : fits (tyX10 11) v = true) (hl : 11 < fs.length) (hdg : decode cc pc = .ok (.putfield 76, 3)) (kk : ∀ (H1 : Heap) (locs1 : List Loc), va_P D vwCl (ws.set q0 (a, .inr (11, fs.set 11 v))) H1 → va_D A (ws.set q0 (a, .inr (11, fs.set 11 v))) → va_S A H0 H1 locs1 → W p l e R s m args below meth c H1 locs1 cells slots Q (F0 m (pc + 3) ls rest)) : W p l e R s m args below meth c H locs cells slots Q (F0 m pc ls (v :: .ref a :: rest)) := va_put (C := RX10) (T := TX10) (N := 17) (ci := 11) hx hb hts inX10 tyX10 tkX10 nmX10 hown hK hP hD hS0 q0 he rfl 11 (by decide) (hts _ t488) (fun _ h => h) rfl (tkX10 11 (by decide)) hn hfit hl hdg kk
theorem dX10_colony_72 : decode cX10_colony 72 = .ok (.aload_n 0, 1) := by decide +kernel
theorem dX10_colony_73 : decode cX10_colony 73 = .ok (.aload_n 2, 1) := by decide +kernel
theorem dX10_colony_74 : decode cX10_colony 74 = .ok (.putfield 80, 3) := by decide +kernel
theorem pf_X10_80 {p : Program} {l : Launch} {e : Env} {R : Room} {s : State} {m : MethodId} {args : Array Value} {below : List Frame} {meth : Method} {c : Code} {H : Heap} {locs : List Loc} {cells slots : Nat} {Q : State → Prop} {cc : ByteArray} {pc : Nat} {ls : Array Slot} {rest : List Value} {D : va_G} {A : Nat → Prop} {a : Nat} {tys : List (ClassId × FieldType)} {ws : va_W} {H0 : Heap} (hx : p.tables.exec = Jvm.exec) (hb : c.code = cc) (hts : ∀ w ∈ GW, w.before args s = true) (hown : s.vm.findClass RX10 = some m.cls) (hK : va_K D vwCl tys s) (hP : va_P D vwCl ws H) (hD : va_D A ws) (hS0 : va_S A H0 H locs) (q0 : Nat) {fs : List Value} (he : ws[q0]? = some (a, .inr (11, fs))) {v : Value} (hn : narrow (tyX10 12) v = v) (hfit : fits (tyX10 12) v = true) (hl : 12 < fs.length) (hdg : decode cc pc = .ok (.putfield 80, 3)) (kk : ∀ (H1 : Heap) (locs1 : List Loc), va_P D vwCl (ws.set q0 (a, .inr (11, fs.set 12 v))) H1 → va_D A (ws.set q0 (a, .inr (11, fs.set 12 v))) → va_S A H0 H1 locs1 → W p l e R s m args below meth c H1 locs1 cells slots Q (F0 m (pc + 3) ls rest)) : W p l e R s m args below meth c H locs cells slots Q (F0 m pc ls (v :: .ref a :: rest)) := va_put (C := RX10) (T := TX10) (N := 17) (ci := 11) hx hb hts inX10 tyX10 tkX10 nmX10 hown hK hP hD hS0 q0 he rfl 12 (by decide) (hts _ t489) (fun _ h => h) rfl (tkX10 12 (by decide)) hn hfit hl hdg kk
theorem dX10_colony_77 : decode cX10_colony 77 = .ok (.aload_n 0, 1) := by decide +kernel
theorem dX10_colony_78 : decode cX10_colony 78 = .ok (.getfield 76, 3) := by decide +kernel
theorem dX10_colony_81 : decode cX10_colony 81 = .ok (.getfield 115, 3) := by decide +kernel
theorem dX10_colony_84 : decode cX10_colony 84 = .ok (.invokevirtual 119, 3) := by decide +kernel
theorem t657 : Cond.methodLink RX10 119 yX6_clear ∈ GW := gw_mem 771 (by decide +kernel) (by decide +kernel)
theorem t17 : Cond.initialized RX6 ∈ GW := gw_mem 131 (by decide +kernel) (by decide +kernel)
theorem t658 : Cond.instanceMethod yX6_clear ∈ GW := gw_mem 772 (by decide +kernel) (by decide +kernel)
theorem t659 : Cond.selects RX6 yX6_clear yX6_clear ∈ GW := gw_mem 773 (by decide +kernel) (by decide +kernel)
theorem cw_X10_119 {R : Room} {s : State} {args : Array Value} {rm : Room} {mc ms : Nat} (hts : ∀ w ∈ GW, w.before args s = true) (hrc : rm.cells = mc) (hrs : rm.slots = ms) (hR : rm.frames + 1 ≤ R.frames ∧ 8 + (1 + 11) + rm.locals ≤ R.locals) : CallW R s args RX10 RX6 119 yX6_clear cX6_clear 1 none (wl yX6_clear cX6_clear 1 none) rm mc ms 0 := cwV 0 hts (gi_V t657 t658 t659 t17 t660) rfl hrc hrs (by decide +kernel) hR
theorem dX10_colony_87 : decode cX10_colony 87 = .ok (.aload_n 0, 1) := by decide +kernel
theorem dX10_colony_88 : decode cX10_colony 88 = .ok (.getfield 33, 3) := by decide +kernel
theorem dX10_colony_91 : decode cX10_colony 91 = .ok (.invokevirtual 124, 3) := by decide +kernel
theorem t661 : Cond.methodLink RX10 124 yX5_clear ∈ GW := gw_mem 775 (by decide +kernel) (by decide +kernel)
theorem t662 : Cond.instanceMethod yX5_clear ∈ GW := gw_mem 776 (by decide +kernel) (by decide +kernel)
theorem t663 : Cond.selects RX5 yX5_clear yX5_clear ∈ GW := gw_mem 777 (by decide +kernel) (by decide +kernel)
theorem cw_X10_124 {R : Room} {s : State} {args : Array Value} {rm : Room} {mc ms : Nat} (hts : ∀ w ∈ GW, w.before args s = true) (hrc : rm.cells = mc) (hrs : rm.slots = ms) (hR : rm.frames + 1 ≤ R.frames ∧ 8 + (1 + 11) + rm.locals ≤ R.locals) : CallW R s args RX10 RX5 124 yX5_clear cX5_clear 1 none (wl yX5_clear cX5_clear 1 none) rm mc ms 0 := cwV 0 hts (gi_V t661 t662 t663 t9 t664) rfl hrc hrs (by decide +kernel) hR
theorem dX10_colony_94 : decode cX10_colony 94 = .ok (.aload_n 0, 1) := by decide +kernel
theorem dX10_colony_95 : decode cX10_colony 95 = .ok (.getfield 19, 3) := by decide +kernel
theorem dX10_colony_98 : decode cX10_colony 98 = .ok (.getfield 125, 3) := by decide +kernel
theorem t153 : Cond.fieldLink RX10 125 "LikenessPound$ColonyText" "lines" "I" ∈ GW := gw_mem 267 (by decide +kernel) (by decide +kernel)
theorem gf_X10_125 {p : Program} {l : Launch} {e : Env} {R : Room} {s : State} {m : MethodId} {args : Array Value} {below : List Frame} {meth : Method} {c : Code} {H : Heap} {locs : List Loc} {cells slots : Nat} {Q : State → Prop} {cc : ByteArray} {pc : Nat} {ls : Array Slot} {rest : List Value} {D : va_G} {a : Nat} {tys : List (ClassId × FieldType)} {ws : va_W} (hx : p.tables.exec = Jvm.exec) (hb : c.code = cc) (hts : ∀ w ∈ GW, w.before args s = true) (hown : s.vm.findClass RX10 = some m.cls) (hK : va_K D vwCl tys s) (hP : va_P D vwCl ws H) (q0 : Nat) {fs : List Value} (he : ws[q0]? = some (a, .inr (3, fs))) {v : Value} (hv : fs[0]? = some v) (hdg : decode cc pc = .ok (.getfield 125, 3)) (kk : W p l e R s m args below meth c H locs cells slots Q (F0 m (pc + 3) ls (v :: rest))) : W p l e R s m args below meth c H locs cells slots Q (F0 m pc ls (.ref a :: rest)) := va_get (C := RX2) (T := TX2) (N := 5) (ci := 3) hx hb hts inX2 hown hK hP q0 he rfl 0 (by decide) (hts _ t153) (fun _ h => h) hv hdg kk
theorem dX10_colony_101 : decode cX10_colony 101 = .ok (.ireturn, 1) := by decide +kernel
set_option maxHeartbeats 4000000 in
set_option maxRecDepth 100000 in
theorem k_colony (l : Launch) (dC : Nat → ClassId) (dI : Nat → Nat → Nat) (cy : Nat → ClassId) (sz : Nat) (ad : Nat → Nat) (ai : Nat → Nat → Int32)  : Met l yX10_colony (wl yX10_colony cX10_colony 3 (some .int)) ({ frames := 4, cells := 0, slots := 0, locals := 256 }) (Pw (dC, dI) vwCl cy [(ad 0, .inr (11, [.ref (ad 1), .ref (ad 4), .ref (ad 5), .ref (ad 10), .ref (ad 23), .ref (ad 24), .ref (ad 25), .ref (ad 27), .ref (ad 28), .ref (ad 29), .ref (ad 30), .ref (ad 31), .ref (ad 54), .int 0, .int (-1), .int 0, .int 0])), (ad 1, .inr (9, [.ref (ad 2), .ref (ad 3), .int 0, .int 0, .int 0, .int 0, .int 0, .int 0, .long 0, .int 0, .int 0, .int 0])), (ad 4, .inr (3, [.int 0, .int 0, .int 0, .int 0, .int 0])), (ad 10, .inr (6, [.ref (ad 11), .int 0, .int 0])), (ad 31, .inr (10, [.ref (ad 32), .ref (ad 38), .ref (ad 49)])), (ad 54, .inr (10, [.ref (ad 55), .ref (ad 61), .ref (ad 72)])), (ad 55, .inr (2, [.ref (ad 56), .ref (ad 57), .ref (ad 58), .ref (ad 59), .ref (ad 60), .int 0, .int 0, .int 60, .int 10])), (ad 60, .inl (cy 0, 7, .inl (ai 60))), (ad 61, .inr (5, [.ref (ad 62), .ref (ad 63), .ref (ad 64), .ref (ad 65), .ref (ad 66), .ref (ad 67), .ref (ad 68), .ref (ad 69), .ref (ad 70), .ref (ad 71), .int 0])), (ad 62, .inl (cy 0, 7, .inl (ai 62))), (ad 63, .inl (cy 0, 70, .inl (ai 63))), (ad 64, .inl (cy 0, 49, .inl (ai 64))), (ad 65, .inl (cy 0, 7, .inl (ai 65))), (ad 66, .inl (cy 0, 7, .inl (ai 66))), (ad 67, .inl (cy 0, 7, .inl (ai 67))), (ad 72, .inr (7, [.ref (ad 73), .ref (ad 74), .ref (ad 75), .ref (ad 76), .int 0, .int 0]))] sz [.ref (ad 0)] nE) (Qi (dC, dI) vwCl (fun (r : Int32) (u : Unit) => r = 0) (fun (u : Unit) => []) (va_A [(ad 0, .inr (11, [.ref (ad 1), .ref (ad 4), .ref (ad 5), .ref (ad 10), .ref (ad 23), .ref (ad 24), .ref (ad 25), .ref (ad 27), .ref (ad 28), .ref (ad 29), .ref (ad 30), .ref (ad 31), .ref (ad 54), .int 0, .int (-1), .int 0, .int 0])), (ad 1, .inr (9, [.ref (ad 2), .ref (ad 3), .int 0, .int 0, .int 0, .int 0, .int 0, .int 0, .long 0, .int 0, .int 0, .int 0])), (ad 4, .inr (3, [.int 0, .int 0, .int 0, .int 0, .int 0])), (ad 10, .inr (6, [.ref (ad 11), .int 0, .int 0])), (ad 31, .inr (10, [.ref (ad 32), .ref (ad 38), .ref (ad 49)])), (ad 54, .inr (10, [.ref (ad 55), .ref (ad 61), .ref (ad 72)])), (ad 55, .inr (2, [.ref (ad 56), .ref (ad 57), .ref (ad 58), .ref (ad 59), .ref (ad 60), .int 0, .int 0, .int 60, .int 10])), (ad 60, .inl (cy 0, 7, .inl (ai 60))), (ad 61, .inr (5, [.ref (ad 62), .ref (ad 63), .ref (ad 64), .ref (ad 65), .ref (ad 66), .ref (ad 67), .ref (ad 68), .ref (ad 69), .ref (ad 70), .ref (ad 71), .int 0])), (ad 62, .inl (cy 0, 7, .inl (ai 62))), (ad 63, .inl (cy 0, 70, .inl (ai 63))), (ad 64, .inl (cy 0, 49, .inl (ai 64))), (ad 65, .inl (cy 0, 7, .inl (ai 65))), (ad 66, .inl (cy 0, 7, .inl (ai 66))), (ad 67, .inl (cy 0, 7, .inl (ai 67))), (ad 72, .inr (7, [.ref (ad 73), .ref (ad 74), .ref (ad 75), .ref (ad 76), .int 0, .int 0]))] sz)) 0 0 (va_A [(ad 0, .inr (11, [.ref (ad 1), .ref (ad 4), .ref (ad 5), .ref (ad 10), .ref (ad 23), .ref (ad 24), .ref (ad 25), .ref (ad 27), .ref (ad 28), .ref (ad 29), .ref (ad 30), .ref (ad 31), .ref (ad 54), .int 0, .int (-1), .int 0, .int 0])), (ad 1, .inr (9, [.ref (ad 2), .ref (ad 3), .int 0, .int 0, .int 0, .int 0, .int 0, .int 0, .long 0, .int 0, .int 0, .int 0])), (ad 4, .inr (3, [.int 0, .int 0, .int 0, .int 0, .int 0])), (ad 10, .inr (6, [.ref (ad 11), .int 0, .int 0])), (ad 31, .inr (10, [.ref (ad 32), .ref (ad 38), .ref (ad 49)])), (ad 54, .inr (10, [.ref (ad 55), .ref (ad 61), .ref (ad 72)])), (ad 55, .inr (2, [.ref (ad 56), .ref (ad 57), .ref (ad 58), .ref (ad 59), .ref (ad 60), .int 0, .int 0, .int 60, .int 10])), (ad 60, .inl (cy 0, 7, .inl (ai 60))), (ad 61, .inr (5, [.ref (ad 62), .ref (ad 63), .ref (ad 64), .ref (ad 65), .ref (ad 66), .ref (ad 67), .ref (ad 68), .ref (ad 69), .ref (ad 70), .ref (ad 71), .int 0])), (ad 62, .inl (cy 0, 7, .inl (ai 62))), (ad 63, .inl (cy 0, 70, .inl (ai 63))), (ad 64, .inl (cy 0, 49, .inl (ai 64))), (ad 65, .inl (cy 0, 7, .inl (ai 65))), (ad 66, .inl (cy 0, 7, .inl (ai 66))), (ad 67, .inl (cy 0, 7, .inl (ai 67))), (ad 72, .inr (7, [.ref (ad 73), .ref (ad 74), .ref (ad 75), .ref (ad 76), .int 0, .int 0]))] sz) := by
  refine mw (Qc := Qi (dC, dI) vwCl (fun (r : Int32) (u : Unit) => r = 0) (fun (u : Unit) => [])) RX10 rfl (by decide +kernel) (Nat.le_of_ble_eq_true rfl) ?_
  intro p e s m below meth c A hx hb hr hlocks av9 hav hts hown hnm hml hK hP hD hA hS hE hAe Q9 hQ9 ls hl
  have hl : lv_has ls 3 [(0, .ref (ad 0))] := hl
  refine lv_aload_n hx hb dX10_colony_0 rfl (lv_at hl 0 rfl) ?_
  refine gf_X10_19 hx hb hts hown hK hP 0 rfl rfl dX10_colony_1 ?_
  refine lv_aload_n hx hb dX10_colony_4 rfl (lv_at hl 0 rfl) ?_
  refine gf_X10_10 hx hb hts hown hK hP 0 rfl rfl dX10_colony_5 ?_
  refine lv_aload_n hx hb dX10_colony_8 rfl (lv_at hl 0 rfl) ?_
  refine gf_X10_80 hx hb hts hown hK hP 0 rfl rfl dX10_colony_9 ?_
  refine gf_X10_94 hx hb hts hown hK hP 5 rfl rfl dX10_colony_12 ?_
  refine lv_aload_n hx hb dX10_colony_15 rfl (lv_at hl 0 rfl) ?_
  refine gf_X10_80 hx hb hts hown hK hP 0 rfl rfl dX10_colony_16 ?_
  refine gf_X10_98 hx hb hts hown hK hP 5 rfl rfl dX10_colony_19 ?_
  refine jn_i (wr := [(ad 0, .inr (11, [.ref (ad 1), .ref (ad 4), .ref (ad 5), .ref (ad 10), .ref (ad 23), .ref (ad 24), .ref (ad 25), .ref (ad 27), .ref (ad 28), .ref (ad 29), .ref (ad 30), .ref (ad 31), .ref (ad 54), .int 0, .int (-1), .int 0, .int 0])), (ad 10, .inr (6, [.ref (ad 11), .int 0, .int 0])), (ad 31, .inr (10, [.ref (ad 32), .ref (ad 38), .ref (ad 49)])), (ad 54, .inr (10, [.ref (ad 55), .ref (ad 61), .ref (ad 72)])), (ad 72, .inr (7, [.ref (ad 73), .ref (ad 74), .ref (ad 75), .ref (ad 76), .int 0, .int 0]))]) (rV (As := [.ref (ad 1), .ref (ad 55), .ref (ad 61)]) (rest := []) (ci := 3) ⟨hx, hb, hml, hown, hts⟩ (k_ctread l dC dI cy _ ad ai ) (cw_X10_102 hts rfl rfl ⟨Nat.le_of_ble_eq_true rfl, Nat.le_of_ble_eq_true rfl⟩) hP hD hK [2, 1, 6, 7, 8, 9, 10, 11, 12, 13, 14] rfl rfl rfl rfl bl0 e0 rfl hl.1 rfl (Nat.le_of_ble_eq_true rfl) dX10_colony_22 ⟨Nat.le_of_ble_eq_true rfl, Nat.le_of_ble_eq_true rfl⟩) hP hD hS hA [2, 1, 6, 7, 8, 9, 10, 11, 12, 13, 14] [0, 3, 4, 5, 15] rfl rfl rfl (by decide) (fun r_1 u_3 H locs hp_2 hP hD hS => ?_)
  have hp_2 : r_1 = 1 := hp_2
  have hP : va_P (dC, dI) vwCl [(ad 0, .inr (11, [.ref (ad 1), .ref (ad 4), .ref (ad 5), .ref (ad 10), .ref (ad 23), .ref (ad 24), .ref (ad 25), .ref (ad 27), .ref (ad 28), .ref (ad 29), .ref (ad 30), .ref (ad 31), .ref (ad 54), .int 0, .int (-1), .int 0, .int 0])), (ad 10, .inr (6, [.ref (ad 11), .int 0, .int 0])), (ad 31, .inr (10, [.ref (ad 32), .ref (ad 38), .ref (ad 49)])), (ad 54, .inr (10, [.ref (ad 55), .ref (ad 61), .ref (ad 72)])), (ad 72, .inr (7, [.ref (ad 73), .ref (ad 74), .ref (ad 75), .ref (ad 76), .int 0, .int 0])), (ad 4, .inr (3, [.int 0, .int 0, .int 0, .int 0, .int 0])), (ad 1, .inr (9, [.ref (ad 2), .ref (ad 3), .int 0, .int 900, .int 0, .int 3, .int 0, .int (-1), .long 0, .int 0, .int 0, .int 0]))] H := hP
  have hD : va_D A [(ad 0, .inr (11, [.ref (ad 1), .ref (ad 4), .ref (ad 5), .ref (ad 10), .ref (ad 23), .ref (ad 24), .ref (ad 25), .ref (ad 27), .ref (ad 28), .ref (ad 29), .ref (ad 30), .ref (ad 31), .ref (ad 54), .int 0, .int (-1), .int 0, .int 0])), (ad 10, .inr (6, [.ref (ad 11), .int 0, .int 0])), (ad 31, .inr (10, [.ref (ad 32), .ref (ad 38), .ref (ad 49)])), (ad 54, .inr (10, [.ref (ad 55), .ref (ad 61), .ref (ad 72)])), (ad 72, .inr (7, [.ref (ad 73), .ref (ad 74), .ref (ad 75), .ref (ad 76), .int 0, .int 0])), (ad 4, .inr (3, [.int 0, .int 0, .int 0, .int 0, .int 0])), (ad 1, .inr (9, [.ref (ad 2), .ref (ad 3), .int 0, .int 900, .int 0, .int 3, .int 0, .int (-1), .long 0, .int 0, .int 0, .int 0]))] := hD
  refine as_i 1 hp_2 ?_
  refine lv_istore_n (lv' := [(1, .int 1), (0, .ref (ad 0))]) hx hb dX10_colony_25 rfl hl (by decide) rfl (fun ls hl => ?_)
  refine lv_aload_n hx hb dX10_colony_26 rfl (lv_at hl 1 rfl) ?_
  refine gf_X10_10 hx hb hts hown hK hP 0 rfl rfl dX10_colony_27 ?_
  refine lv_iconst (v := 0) hx hb dX10_colony_30 (by decide) ?_
  refine pf_X10_87 hx hb hts hown hK hP hD hS 6 rfl rfl rfl (Nat.le_of_ble_eq_true rfl) dX10_colony_31 (fun H locs hP hD hS => ?_)
  have hP : va_P (dC, dI) vwCl [(ad 0, .inr (11, [.ref (ad 1), .ref (ad 4), .ref (ad 5), .ref (ad 10), .ref (ad 23), .ref (ad 24), .ref (ad 25), .ref (ad 27), .ref (ad 28), .ref (ad 29), .ref (ad 30), .ref (ad 31), .ref (ad 54), .int 0, .int (-1), .int 0, .int 0])), (ad 10, .inr (6, [.ref (ad 11), .int 0, .int 0])), (ad 31, .inr (10, [.ref (ad 32), .ref (ad 38), .ref (ad 49)])), (ad 54, .inr (10, [.ref (ad 55), .ref (ad 61), .ref (ad 72)])), (ad 72, .inr (7, [.ref (ad 73), .ref (ad 74), .ref (ad 75), .ref (ad 76), .int 0, .int 0])), (ad 4, .inr (3, [.int 0, .int 0, .int 0, .int 0, .int 0])), (ad 1, .inr (9, [.ref (ad 2), .ref (ad 3), .int 0, .int 900, .int 0, .int 3, .int 0, .int (-1), .long 0, .int 0, .int 0, .int 0]))] H := hP
  have hD : va_D A [(ad 0, .inr (11, [.ref (ad 1), .ref (ad 4), .ref (ad 5), .ref (ad 10), .ref (ad 23), .ref (ad 24), .ref (ad 25), .ref (ad 27), .ref (ad 28), .ref (ad 29), .ref (ad 30), .ref (ad 31), .ref (ad 54), .int 0, .int (-1), .int 0, .int 0])), (ad 10, .inr (6, [.ref (ad 11), .int 0, .int 0])), (ad 31, .inr (10, [.ref (ad 32), .ref (ad 38), .ref (ad 49)])), (ad 54, .inr (10, [.ref (ad 55), .ref (ad 61), .ref (ad 72)])), (ad 72, .inr (7, [.ref (ad 73), .ref (ad 74), .ref (ad 75), .ref (ad 76), .int 0, .int 0])), (ad 4, .inr (3, [.int 0, .int 0, .int 0, .int 0, .int 0])), (ad 1, .inr (9, [.ref (ad 2), .ref (ad 3), .int 0, .int 900, .int 0, .int 3, .int 0, .int (-1), .long 0, .int 0, .int 0, .int 0]))] := hD
  refine lv_aload_n hx hb dX10_colony_34 rfl (lv_at hl 1 rfl) ?_
  refine lv_aload_n hx hb dX10_colony_35 rfl (lv_at hl 1 rfl) ?_
  refine gf_X10_10 hx hb hts hown hK hP 0 rfl rfl dX10_colony_36 ?_
  refine gf_X10_106 hx hb hts hown hK hP 6 rfl rfl dX10_colony_39 ?_
  refine pf_X10_109 hx hb hts hown hK hP hD hS 0 rfl rfl rfl (Nat.le_of_ble_eq_true rfl) dX10_colony_42 (fun H locs hP hD hS => ?_)
  have hP : va_P (dC, dI) vwCl [(ad 0, .inr (11, [.ref (ad 1), .ref (ad 4), .ref (ad 5), .ref (ad 10), .ref (ad 23), .ref (ad 24), .ref (ad 25), .ref (ad 27), .ref (ad 28), .ref (ad 29), .ref (ad 30), .ref (ad 31), .ref (ad 54), .int 0, .int (-1), .int 0, .int 0])), (ad 10, .inr (6, [.ref (ad 11), .int 0, .int 0])), (ad 31, .inr (10, [.ref (ad 32), .ref (ad 38), .ref (ad 49)])), (ad 54, .inr (10, [.ref (ad 55), .ref (ad 61), .ref (ad 72)])), (ad 72, .inr (7, [.ref (ad 73), .ref (ad 74), .ref (ad 75), .ref (ad 76), .int 0, .int 0])), (ad 4, .inr (3, [.int 0, .int 0, .int 0, .int 0, .int 0])), (ad 1, .inr (9, [.ref (ad 2), .ref (ad 3), .int 0, .int 900, .int 0, .int 3, .int 0, .int (-1), .long 0, .int 0, .int 0, .int 0]))] H := hP
  have hD : va_D A [(ad 0, .inr (11, [.ref (ad 1), .ref (ad 4), .ref (ad 5), .ref (ad 10), .ref (ad 23), .ref (ad 24), .ref (ad 25), .ref (ad 27), .ref (ad 28), .ref (ad 29), .ref (ad 30), .ref (ad 31), .ref (ad 54), .int 0, .int (-1), .int 0, .int 0])), (ad 10, .inr (6, [.ref (ad 11), .int 0, .int 0])), (ad 31, .inr (10, [.ref (ad 32), .ref (ad 38), .ref (ad 49)])), (ad 54, .inr (10, [.ref (ad 55), .ref (ad 61), .ref (ad 72)])), (ad 72, .inr (7, [.ref (ad 73), .ref (ad 74), .ref (ad 75), .ref (ad 76), .int 0, .int 0])), (ad 4, .inr (3, [.int 0, .int 0, .int 0, .int 0, .int 0])), (ad 1, .inr (9, [.ref (ad 2), .ref (ad 3), .int 0, .int 900, .int 0, .int 3, .int 0, .int (-1), .long 0, .int 0, .int 0, .int 0]))] := hD
  refine lv_iload_n hx hb dX10_colony_45 rfl (lv_at hl 0 rfl) ?_
  refine lv_if_ne (tgt := 59) hx hb dX10_colony_46 (by decide) (fun _ => ?_) (fun c9 => absurd c9 (by decide))
  refine lv_aload_n hx hb dX10_colony_59 rfl (lv_at hl 1 rfl) ?_
  refine gf_X10_76 hx hb hts hown hK hP 0 rfl rfl dX10_colony_60 ?_
  refine lv_astore_n (lv' := [(2, .ref (ad 31)), (1, .int 1), (0, .ref (ad 0))]) hx hb dX10_colony_63 rfl hl (by decide) rfl (fun ls hl => ?_)
  refine lv_aload_n hx hb dX10_colony_64 rfl (lv_at hl 2 rfl) ?_
  refine lv_aload_n hx hb dX10_colony_65 rfl (lv_at hl 2 rfl) ?_
  refine gf_X10_80 hx hb hts hown hK hP 0 rfl rfl dX10_colony_66 ?_
  refine pf_X10_76 hx hb hts hown hK hP hD hS 0 rfl rfl rfl (Nat.le_of_ble_eq_true rfl) dX10_colony_69 (fun H locs hP hD hS => ?_)
  have hP : va_P (dC, dI) vwCl [(ad 0, .inr (11, [.ref (ad 1), .ref (ad 4), .ref (ad 5), .ref (ad 10), .ref (ad 23), .ref (ad 24), .ref (ad 25), .ref (ad 27), .ref (ad 28), .ref (ad 29), .ref (ad 30), .ref (ad 54), .ref (ad 54), .int 0, .int (-1), .int 0, .int 0])), (ad 10, .inr (6, [.ref (ad 11), .int 0, .int 0])), (ad 31, .inr (10, [.ref (ad 32), .ref (ad 38), .ref (ad 49)])), (ad 54, .inr (10, [.ref (ad 55), .ref (ad 61), .ref (ad 72)])), (ad 72, .inr (7, [.ref (ad 73), .ref (ad 74), .ref (ad 75), .ref (ad 76), .int 0, .int 0])), (ad 4, .inr (3, [.int 0, .int 0, .int 0, .int 0, .int 0])), (ad 1, .inr (9, [.ref (ad 2), .ref (ad 3), .int 0, .int 900, .int 0, .int 3, .int 0, .int (-1), .long 0, .int 0, .int 0, .int 0]))] H := hP
  have hD : va_D A [(ad 0, .inr (11, [.ref (ad 1), .ref (ad 4), .ref (ad 5), .ref (ad 10), .ref (ad 23), .ref (ad 24), .ref (ad 25), .ref (ad 27), .ref (ad 28), .ref (ad 29), .ref (ad 30), .ref (ad 54), .ref (ad 54), .int 0, .int (-1), .int 0, .int 0])), (ad 10, .inr (6, [.ref (ad 11), .int 0, .int 0])), (ad 31, .inr (10, [.ref (ad 32), .ref (ad 38), .ref (ad 49)])), (ad 54, .inr (10, [.ref (ad 55), .ref (ad 61), .ref (ad 72)])), (ad 72, .inr (7, [.ref (ad 73), .ref (ad 74), .ref (ad 75), .ref (ad 76), .int 0, .int 0])), (ad 4, .inr (3, [.int 0, .int 0, .int 0, .int 0, .int 0])), (ad 1, .inr (9, [.ref (ad 2), .ref (ad 3), .int 0, .int 900, .int 0, .int 3, .int 0, .int (-1), .long 0, .int 0, .int 0, .int 0]))] := hD
  refine lv_aload_n hx hb dX10_colony_72 rfl (lv_at hl 2 rfl) ?_
  refine lv_aload_n hx hb dX10_colony_73 rfl (lv_at hl 0 rfl) ?_
  refine pf_X10_80 hx hb hts hown hK hP hD hS 0 rfl rfl rfl (Nat.le_of_ble_eq_true rfl) dX10_colony_74 (fun H locs hP hD hS => ?_)
  have hP : va_P (dC, dI) vwCl [(ad 0, .inr (11, [.ref (ad 1), .ref (ad 4), .ref (ad 5), .ref (ad 10), .ref (ad 23), .ref (ad 24), .ref (ad 25), .ref (ad 27), .ref (ad 28), .ref (ad 29), .ref (ad 30), .ref (ad 54), .ref (ad 31), .int 0, .int (-1), .int 0, .int 0])), (ad 10, .inr (6, [.ref (ad 11), .int 0, .int 0])), (ad 31, .inr (10, [.ref (ad 32), .ref (ad 38), .ref (ad 49)])), (ad 54, .inr (10, [.ref (ad 55), .ref (ad 61), .ref (ad 72)])), (ad 72, .inr (7, [.ref (ad 73), .ref (ad 74), .ref (ad 75), .ref (ad 76), .int 0, .int 0])), (ad 4, .inr (3, [.int 0, .int 0, .int 0, .int 0, .int 0])), (ad 1, .inr (9, [.ref (ad 2), .ref (ad 3), .int 0, .int 900, .int 0, .int 3, .int 0, .int (-1), .long 0, .int 0, .int 0, .int 0]))] H := hP
  have hD : va_D A [(ad 0, .inr (11, [.ref (ad 1), .ref (ad 4), .ref (ad 5), .ref (ad 10), .ref (ad 23), .ref (ad 24), .ref (ad 25), .ref (ad 27), .ref (ad 28), .ref (ad 29), .ref (ad 30), .ref (ad 54), .ref (ad 31), .int 0, .int (-1), .int 0, .int 0])), (ad 10, .inr (6, [.ref (ad 11), .int 0, .int 0])), (ad 31, .inr (10, [.ref (ad 32), .ref (ad 38), .ref (ad 49)])), (ad 54, .inr (10, [.ref (ad 55), .ref (ad 61), .ref (ad 72)])), (ad 72, .inr (7, [.ref (ad 73), .ref (ad 74), .ref (ad 75), .ref (ad 76), .int 0, .int 0])), (ad 4, .inr (3, [.int 0, .int 0, .int 0, .int 0, .int 0])), (ad 1, .inr (9, [.ref (ad 2), .ref (ad 3), .int 0, .int 900, .int 0, .int 3, .int 0, .int (-1), .long 0, .int 0, .int 0, .int 0]))] := hD
  refine lv_aload_n hx hb dX10_colony_77 rfl (lv_at hl 2 rfl) ?_
  refine gf_X10_76 hx hb hts hown hK hP 0 rfl rfl dX10_colony_78 ?_
  refine gf_X10_115 hx hb hts hown hK hP 3 rfl rfl dX10_colony_81 ?_
  refine jn_v (wr := [(ad 0, .inr (11, [.ref (ad 1), .ref (ad 4), .ref (ad 5), .ref (ad 10), .ref (ad 23), .ref (ad 24), .ref (ad 25), .ref (ad 27), .ref (ad 28), .ref (ad 29), .ref (ad 30), .ref (ad 54), .ref (ad 31), .int 0, .int (-1), .int 0, .int 0])), (ad 10, .inr (6, [.ref (ad 11), .int 0, .int 0])), (ad 31, .inr (10, [.ref (ad 32), .ref (ad 38), .ref (ad 49)])), (ad 54, .inr (10, [.ref (ad 55), .ref (ad 61), .ref (ad 72)])), (ad 4, .inr (3, [.int 0, .int 0, .int 0, .int 0, .int 0])), (ad 1, .inr (9, [.ref (ad 2), .ref (ad 3), .int 0, .int 900, .int 0, .int 3, .int 0, .int (-1), .long 0, .int 0, .int 0, .int 0]))]) (rV (As := []) (rest := []) (ci := 7) ⟨hx, hb, hml, hown, hts⟩ (k_seclear l dC dI cy _ (ad 72) (ad 73) (ad 74) (ad 75) (ad 76) 0 0 ) (cw_X10_119 hts rfl rfl ⟨Nat.le_of_ble_eq_true rfl, Nat.le_of_ble_eq_true rfl⟩) hP hD hK [4] rfl rfl rfl rfl bl0 e0 rfl hl.1 rfl (Nat.le_of_ble_eq_true rfl) dX10_colony_84 ⟨Nat.le_of_ble_eq_true rfl, Nat.le_of_ble_eq_true rfl⟩) hP hD hS hA [4] [0, 1, 2, 3, 5, 6] rfl rfl rfl (by decide) (fun u_6 H locs hp_5 hP hD hS => ?_)
  have hp_5 : True := hp_5
  have hP : va_P (dC, dI) vwCl [(ad 0, .inr (11, [.ref (ad 1), .ref (ad 4), .ref (ad 5), .ref (ad 10), .ref (ad 23), .ref (ad 24), .ref (ad 25), .ref (ad 27), .ref (ad 28), .ref (ad 29), .ref (ad 30), .ref (ad 54), .ref (ad 31), .int 0, .int (-1), .int 0, .int 0])), (ad 10, .inr (6, [.ref (ad 11), .int 0, .int 0])), (ad 31, .inr (10, [.ref (ad 32), .ref (ad 38), .ref (ad 49)])), (ad 54, .inr (10, [.ref (ad 55), .ref (ad 61), .ref (ad 72)])), (ad 4, .inr (3, [.int 0, .int 0, .int 0, .int 0, .int 0])), (ad 1, .inr (9, [.ref (ad 2), .ref (ad 3), .int 0, .int 900, .int 0, .int 3, .int 0, .int (-1), .long 0, .int 0, .int 0, .int 0])), (ad 72, .inr (7, [.ref (ad 73), .ref (ad 74), .ref (ad 75), .ref (ad 76), .int 0, .int 0]))] H := hP
  have hD : va_D A [(ad 0, .inr (11, [.ref (ad 1), .ref (ad 4), .ref (ad 5), .ref (ad 10), .ref (ad 23), .ref (ad 24), .ref (ad 25), .ref (ad 27), .ref (ad 28), .ref (ad 29), .ref (ad 30), .ref (ad 54), .ref (ad 31), .int 0, .int (-1), .int 0, .int 0])), (ad 10, .inr (6, [.ref (ad 11), .int 0, .int 0])), (ad 31, .inr (10, [.ref (ad 32), .ref (ad 38), .ref (ad 49)])), (ad 54, .inr (10, [.ref (ad 55), .ref (ad 61), .ref (ad 72)])), (ad 4, .inr (3, [.int 0, .int 0, .int 0, .int 0, .int 0])), (ad 1, .inr (9, [.ref (ad 2), .ref (ad 3), .int 0, .int 900, .int 0, .int 3, .int 0, .int (-1), .long 0, .int 0, .int 0, .int 0])), (ad 72, .inr (7, [.ref (ad 73), .ref (ad 74), .ref (ad 75), .ref (ad 76), .int 0, .int 0]))] := hD
  refine lv_aload_n hx hb dX10_colony_87 rfl (lv_at hl 2 rfl) ?_
  refine gf_X10_33 hx hb hts hown hK hP 0 rfl rfl dX10_colony_88 ?_
  refine jn_v (wr := [(ad 0, .inr (11, [.ref (ad 1), .ref (ad 4), .ref (ad 5), .ref (ad 10), .ref (ad 23), .ref (ad 24), .ref (ad 25), .ref (ad 27), .ref (ad 28), .ref (ad 29), .ref (ad 30), .ref (ad 54), .ref (ad 31), .int 0, .int (-1), .int 0, .int 0])), (ad 31, .inr (10, [.ref (ad 32), .ref (ad 38), .ref (ad 49)])), (ad 54, .inr (10, [.ref (ad 55), .ref (ad 61), .ref (ad 72)])), (ad 4, .inr (3, [.int 0, .int 0, .int 0, .int 0, .int 0])), (ad 1, .inr (9, [.ref (ad 2), .ref (ad 3), .int 0, .int 900, .int 0, .int 3, .int 0, .int (-1), .long 0, .int 0, .int 0, .int 0])), (ad 72, .inr (7, [.ref (ad 73), .ref (ad 74), .ref (ad 75), .ref (ad 76), .int 0, .int 0]))]) (rV (As := []) (rest := []) (ci := 6) ⟨hx, hb, hml, hown, hts⟩ (k_paclear l dC dI cy _ (ad 10) (ad 11) 0 0 ) (cw_X10_124 hts rfl rfl ⟨Nat.le_of_ble_eq_true rfl, Nat.le_of_ble_eq_true rfl⟩) hP hD hK [1] rfl rfl rfl rfl bl0 e0 rfl hl.1 rfl (Nat.le_of_ble_eq_true rfl) dX10_colony_91 ⟨Nat.le_of_ble_eq_true rfl, Nat.le_of_ble_eq_true rfl⟩) hP hD hS hA [1] [0, 2, 3, 4, 5, 6] rfl rfl rfl (by decide) (fun u_9 H locs hp_8 hP hD hS => ?_)
  have hp_8 : True := hp_8
  have hP : va_P (dC, dI) vwCl [(ad 0, .inr (11, [.ref (ad 1), .ref (ad 4), .ref (ad 5), .ref (ad 10), .ref (ad 23), .ref (ad 24), .ref (ad 25), .ref (ad 27), .ref (ad 28), .ref (ad 29), .ref (ad 30), .ref (ad 54), .ref (ad 31), .int 0, .int (-1), .int 0, .int 0])), (ad 31, .inr (10, [.ref (ad 32), .ref (ad 38), .ref (ad 49)])), (ad 54, .inr (10, [.ref (ad 55), .ref (ad 61), .ref (ad 72)])), (ad 4, .inr (3, [.int 0, .int 0, .int 0, .int 0, .int 0])), (ad 1, .inr (9, [.ref (ad 2), .ref (ad 3), .int 0, .int 900, .int 0, .int 3, .int 0, .int (-1), .long 0, .int 0, .int 0, .int 0])), (ad 72, .inr (7, [.ref (ad 73), .ref (ad 74), .ref (ad 75), .ref (ad 76), .int 0, .int 0])), (ad 10, .inr (6, [.ref (ad 11), .int 0, .int 0]))] H := hP
  have hD : va_D A [(ad 0, .inr (11, [.ref (ad 1), .ref (ad 4), .ref (ad 5), .ref (ad 10), .ref (ad 23), .ref (ad 24), .ref (ad 25), .ref (ad 27), .ref (ad 28), .ref (ad 29), .ref (ad 30), .ref (ad 54), .ref (ad 31), .int 0, .int (-1), .int 0, .int 0])), (ad 31, .inr (10, [.ref (ad 32), .ref (ad 38), .ref (ad 49)])), (ad 54, .inr (10, [.ref (ad 55), .ref (ad 61), .ref (ad 72)])), (ad 4, .inr (3, [.int 0, .int 0, .int 0, .int 0, .int 0])), (ad 1, .inr (9, [.ref (ad 2), .ref (ad 3), .int 0, .int 900, .int 0, .int 3, .int 0, .int (-1), .long 0, .int 0, .int 0, .int 0])), (ad 72, .inr (7, [.ref (ad 73), .ref (ad 74), .ref (ad 75), .ref (ad 76), .int 0, .int 0])), (ad 10, .inr (6, [.ref (ad 11), .int 0, .int 0]))] := hD
  refine lv_aload_n hx hb dX10_colony_94 rfl (lv_at hl 2 rfl) ?_
  refine gf_X10_19 hx hb hts hown hK hP 0 rfl rfl dX10_colony_95 ?_
  refine gf_X10_125 hx hb hts hown hK hP 3 rfl rfl dX10_colony_98 ?_
  rw [hQ9]
  exact re_i () hx hb hr hlocks rfl (hP.sub [] rfl) (hD.sub [] rfl rfl) hS dX10_colony_101
abbrev cX10_may : ByteArray := prog_1_method_26_code
def yX10_may : MethodName := ⟨RX10, "may", "()J"⟩
theorem t902 : Cond.code yX10_may cX10_may 6 (some .long) ∈ GW := gw_mem 1016 (by decide +kernel) (by decide +kernel)
theorem dX10_may_0 : decode cX10_may 0 = .ok (.aload_n 0, 1) := by decide +kernel
theorem dX10_may_1 : decode cX10_may 1 = .ok (.getfield 10, 3) := by decide +kernel
theorem dX10_may_4 : decode cX10_may 4 = .ok (.getfield 87, 3) := by decide +kernel
theorem dX10_may_7 : decode cX10_may 7 = .ok (.iconst 2, 1) := by decide +kernel
theorem dX10_may_8 : decode cX10_may 8 = .ok (.if_icmp .ne 7, 3) := by decide +kernel
theorem dX10_may_15 : decode cX10_may 15 = .ok (.iconst 0, 1) := by decide +kernel
theorem dX10_may_16 : decode cX10_may 16 = .ok (.istore_n 1, 1) := by decide +kernel
theorem dX10_may_17 : decode cX10_may 17 = .ok (.aload_n 0, 1) := by decide +kernel
theorem dX10_may_18 : decode cX10_may 18 = .ok (.getfield 10, 3) := by decide +kernel
theorem dX10_may_21 : decode cX10_may 21 = .ok (.iconst 0, 1) := by decide +kernel
theorem dX10_may_22 : decode cX10_may 22 = .ok (.putfield 87, 3) := by decide +kernel
theorem dX10_may_25 : decode cX10_may 25 = .ok (.iload_n 1, 1) := by decide +kernel
theorem dX10_may_26 : decode cX10_may 26 = .ok (.ifCond .ne 7, 3) := by decide +kernel
theorem dX10_may_29 : decode cX10_may 29 = .ok (.ldc2_w 278, 3) := by decide +kernel
theorem t903 : Cond.constantLong RX10 278 (-1) ∈ GW := gw_mem 1017 (by decide +kernel) (by decide +kernel)
theorem dX10_may_32 : decode cX10_may 32 = .ok (.lreturn, 1) := by decide +kernel
set_option maxHeartbeats 4000000 in
set_option maxRecDepth 100000 in
theorem k_may (l : Launch) (dC : Nat → ClassId) (dI : Nat → Nat → Nat) (cy : Nat → ClassId) (sz : Nat) (ad : Nat → Nat)  : Met l yX10_may (wl yX10_may cX10_may 6 (some .long)) ({ frames := 1, cells := 0, slots := 0, locals := 64 }) (Pw (dC, dI) vwCl cy [(ad 0, .inr (11, [.ref (ad 1), .ref (ad 4), .ref (ad 5), .ref (ad 10), .ref (ad 23), .ref (ad 24), .ref (ad 25), .ref (ad 27), .ref (ad 28), .ref (ad 29), .ref (ad 30), .ref (ad 31), .ref (ad 54), .int 0, .int (-1), .int 0, .int 0])), (ad 1, .inr (9, [.ref (ad 2), .ref (ad 3), .int 0, .int 0, .int 0, .int 0, .int 0, .int 0, .long 0, .int 0, .int 0, .int 0]))] sz [.ref (ad 0)] nE) (Ql (dC, dI) vwCl (fun (r : Int64) (u : Unit) => r = (-1)) (fun (u : Unit) => []) (va_A [(ad 0, .inr (11, [.ref (ad 1), .ref (ad 4), .ref (ad 5), .ref (ad 10), .ref (ad 23), .ref (ad 24), .ref (ad 25), .ref (ad 27), .ref (ad 28), .ref (ad 29), .ref (ad 30), .ref (ad 31), .ref (ad 54), .int 0, .int (-1), .int 0, .int 0])), (ad 1, .inr (9, [.ref (ad 2), .ref (ad 3), .int 0, .int 0, .int 0, .int 0, .int 0, .int 0, .long 0, .int 0, .int 0, .int 0]))] sz)) 0 0 (va_A [(ad 0, .inr (11, [.ref (ad 1), .ref (ad 4), .ref (ad 5), .ref (ad 10), .ref (ad 23), .ref (ad 24), .ref (ad 25), .ref (ad 27), .ref (ad 28), .ref (ad 29), .ref (ad 30), .ref (ad 31), .ref (ad 54), .int 0, .int (-1), .int 0, .int 0])), (ad 1, .inr (9, [.ref (ad 2), .ref (ad 3), .int 0, .int 0, .int 0, .int 0, .int 0, .int 0, .long 0, .int 0, .int 0, .int 0]))] sz) := by
  refine mw (Qc := Ql (dC, dI) vwCl (fun (r : Int64) (u : Unit) => r = (-1)) (fun (u : Unit) => [])) RX10 rfl (by decide +kernel) (Nat.le_of_ble_eq_true rfl) ?_
  intro p e s m below meth c A hx hb hr hlocks av9 hav hts hown hnm hml hK hP hD hA hS hE hAe Q9 hQ9 ls hl
  have hl : lv_has ls 6 [(0, .ref (ad 0))] := hl
  refine lv_aload_n hx hb dX10_may_0 rfl (lv_at hl 0 rfl) ?_
  refine gf_X10_10 hx hb hts hown hK hP 0 rfl rfl dX10_may_1 ?_
  refine gf_X10_87 hx hb hts hown hK hP 1 rfl rfl dX10_may_4 ?_
  refine lv_iconst (v := 2) hx hb dX10_may_7 (by decide) ?_
  refine lv_icmp_ne (tgt := 15) hx hb dX10_may_8 (by decide) (fun _ => ?_) (fun c9 => absurd c9 (by decide))
  refine lv_iconst (v := 0) hx hb dX10_may_15 (by decide) ?_
  refine lv_istore_n (lv' := [(1, .int 0), (0, .ref (ad 0))]) hx hb dX10_may_16 rfl hl (by decide) rfl (fun ls hl => ?_)
  refine lv_aload_n hx hb dX10_may_17 rfl (lv_at hl 1 rfl) ?_
  refine gf_X10_10 hx hb hts hown hK hP 0 rfl rfl dX10_may_18 ?_
  refine lv_iconst (v := 0) hx hb dX10_may_21 (by decide) ?_
  refine pf_X10_87 hx hb hts hown hK hP hD hS 1 rfl rfl rfl (Nat.le_of_ble_eq_true rfl) dX10_may_22 (fun H locs hP hD hS => ?_)
  have hP : va_P (dC, dI) vwCl [(ad 0, .inr (11, [.ref (ad 1), .ref (ad 4), .ref (ad 5), .ref (ad 10), .ref (ad 23), .ref (ad 24), .ref (ad 25), .ref (ad 27), .ref (ad 28), .ref (ad 29), .ref (ad 30), .ref (ad 31), .ref (ad 54), .int 0, .int (-1), .int 0, .int 0])), (ad 1, .inr (9, [.ref (ad 2), .ref (ad 3), .int 0, .int 0, .int 0, .int 0, .int 0, .int 0, .long 0, .int 0, .int 0, .int 0]))] H := hP
  have hD : va_D A [(ad 0, .inr (11, [.ref (ad 1), .ref (ad 4), .ref (ad 5), .ref (ad 10), .ref (ad 23), .ref (ad 24), .ref (ad 25), .ref (ad 27), .ref (ad 28), .ref (ad 29), .ref (ad 30), .ref (ad 31), .ref (ad 54), .int 0, .int (-1), .int 0, .int 0])), (ad 1, .inr (9, [.ref (ad 2), .ref (ad 3), .int 0, .int 0, .int 0, .int 0, .int 0, .int 0, .long 0, .int 0, .int 0, .int 0]))] := hD
  refine lv_iload_n hx hb dX10_may_25 rfl (lv_at hl 0 rfl) ?_
  refine lv_if_ne (tgt := 33) hx hb dX10_may_26 (by decide) (fun c9 => absurd c9 (by decide)) (fun _ => ?_)
  refine lv_ldc2 hx hb hown (hts _ t903) dX10_may_29 ?_
  rw [hQ9]
  exact re_l () hx hb hr hlocks rfl (hP.sub [] rfl) (hD.sub [] rfl rfl) hS dX10_may_32
abbrev cX4_copyFrom : ByteArray := prog_6_method_3_code
def yX4_copyFrom : MethodName := ⟨RX4, "copyFrom", "(LLikenessPound$Life;)V"⟩
theorem t766 : Cond.code yX4_copyFrom cX4_copyFrom 2 none ∈ GW := gw_mem 880 (by decide +kernel) (by decide +kernel)
theorem dX4_copyFrom_0 : decode cX4_copyFrom 0 = .ok (.aload_n 0, 1) := by decide +kernel
theorem dX4_copyFrom_1 : decode cX4_copyFrom 1 = .ok (.aload_n 1, 1) := by decide +kernel
theorem dX4_copyFrom_2 : decode cX4_copyFrom 2 = .ok (.getfield 45, 3) := by decide +kernel
theorem gf_X4_45 {p : Program} {l : Launch} {e : Env} {R : Room} {s : State} {m : MethodId} {args : Array Value} {below : List Frame} {meth : Method} {c : Code} {H : Heap} {locs : List Loc} {cells slots : Nat} {Q : State → Prop} {cc : ByteArray} {pc : Nat} {ls : Array Slot} {rest : List Value} {D : va_G} {a : Nat} {tys : List (ClassId × FieldType)} {ws : va_W} (hx : p.tables.exec = Jvm.exec) (hb : c.code = cc) (hts : ∀ w ∈ GW, w.before args s = true) (hown : s.vm.findClass RX4 = some m.cls) (hK : va_K D vwCl tys s) (hP : va_P D vwCl ws H) (q0 : Nat) {fs : List Value} (he : ws[q0]? = some (a, .inr (5, fs))) {v : Value} (hv : fs[10]? = some v) (hdg : decode cc pc = .ok (.getfield 45, 3)) (kk : W p l e R s m args below meth c H locs cells slots Q (F0 m (pc + 3) ls (v :: rest))) : W p l e R s m args below meth c H locs cells slots Q (F0 m pc ls (.ref a :: rest)) := va_get (C := RX4) (T := TX4) (N := 11) (ci := 5) hx hb hts inX4 hown hK hP q0 he rfl 10 (by decide) (hts _ t266) (fun _ h => h) hv hdg kk
theorem dX4_copyFrom_5 : decode cX4_copyFrom 5 = .ok (.putfield 45, 3) := by decide +kernel
theorem dX4_copyFrom_8 : decode cX4_copyFrom 8 = .ok (.aload_n 1, 1) := by decide +kernel
theorem dX4_copyFrom_9 : decode cX4_copyFrom 9 = .ok (.getfield 9, 3) := by decide +kernel
theorem dX4_copyFrom_12 : decode cX4_copyFrom 12 = .ok (.iconst 0, 1) := by decide +kernel
theorem dX4_copyFrom_13 : decode cX4_copyFrom 13 = .ok (.aload_n 0, 1) := by decide +kernel
theorem dX4_copyFrom_14 : decode cX4_copyFrom 14 = .ok (.getfield 9, 3) := by decide +kernel
theorem dX4_copyFrom_17 : decode cX4_copyFrom 17 = .ok (.iconst 0, 1) := by decide +kernel
theorem dX4_copyFrom_18 : decode cX4_copyFrom 18 = .ok (.bipush 7, 2) := by decide +kernel
theorem dX4_copyFrom_20 : decode cX4_copyFrom 20 = .ok (.invokestatic 49, 3) := by decide +kernel
theorem t767 : Cond.methodLink RX4 49 arraycopyName ∈ GW := gw_mem 881 (by decide +kernel) (by decide +kernel)
theorem t769 : Cond.native arraycopyName ∈ GW := gw_mem 883 (by decide +kernel) (by decide +kernel)
theorem t768 : Cond.static arraycopyName ∈ GW := gw_mem 882 (by decide +kernel) (by decide +kernel)
theorem t23 : Cond.initialized "java/lang/System" ∈ GW := gw_mem 137 (by decide +kernel) (by decide +kernel)
theorem dX4_copyFrom_23 : decode cX4_copyFrom 23 = .ok (.aload_n 1, 1) := by decide +kernel
theorem dX4_copyFrom_24 : decode cX4_copyFrom 24 = .ok (.getfield 15, 3) := by decide +kernel
theorem dX4_copyFrom_27 : decode cX4_copyFrom 27 = .ok (.iconst 0, 1) := by decide +kernel
theorem dX4_copyFrom_28 : decode cX4_copyFrom 28 = .ok (.aload_n 0, 1) := by decide +kernel
theorem dX4_copyFrom_29 : decode cX4_copyFrom 29 = .ok (.getfield 15, 3) := by decide +kernel
theorem dX4_copyFrom_32 : decode cX4_copyFrom 32 = .ok (.iconst 0, 1) := by decide +kernel
theorem dX4_copyFrom_33 : decode cX4_copyFrom 33 = .ok (.bipush 70, 2) := by decide +kernel
theorem dX4_copyFrom_35 : decode cX4_copyFrom 35 = .ok (.invokestatic 49, 3) := by decide +kernel
theorem dX4_copyFrom_38 : decode cX4_copyFrom 38 = .ok (.aload_n 1, 1) := by decide +kernel
theorem dX4_copyFrom_39 : decode cX4_copyFrom 39 = .ok (.getfield 18, 3) := by decide +kernel
theorem dX4_copyFrom_42 : decode cX4_copyFrom 42 = .ok (.iconst 0, 1) := by decide +kernel
theorem dX4_copyFrom_43 : decode cX4_copyFrom 43 = .ok (.aload_n 0, 1) := by decide +kernel
theorem dX4_copyFrom_44 : decode cX4_copyFrom 44 = .ok (.getfield 18, 3) := by decide +kernel
theorem dX4_copyFrom_47 : decode cX4_copyFrom 47 = .ok (.iconst 0, 1) := by decide +kernel
theorem dX4_copyFrom_48 : decode cX4_copyFrom 48 = .ok (.bipush 49, 2) := by decide +kernel
theorem dX4_copyFrom_50 : decode cX4_copyFrom 50 = .ok (.invokestatic 49, 3) := by decide +kernel
theorem dX4_copyFrom_53 : decode cX4_copyFrom 53 = .ok (.aload_n 1, 1) := by decide +kernel
theorem dX4_copyFrom_54 : decode cX4_copyFrom 54 = .ok (.getfield 21, 3) := by decide +kernel
theorem dX4_copyFrom_57 : decode cX4_copyFrom 57 = .ok (.iconst 0, 1) := by decide +kernel
theorem dX4_copyFrom_58 : decode cX4_copyFrom 58 = .ok (.aload_n 0, 1) := by decide +kernel
theorem dX4_copyFrom_59 : decode cX4_copyFrom 59 = .ok (.getfield 21, 3) := by decide +kernel
theorem dX4_copyFrom_62 : decode cX4_copyFrom 62 = .ok (.iconst 0, 1) := by decide +kernel
theorem dX4_copyFrom_63 : decode cX4_copyFrom 63 = .ok (.bipush 7, 2) := by decide +kernel
theorem dX4_copyFrom_65 : decode cX4_copyFrom 65 = .ok (.invokestatic 49, 3) := by decide +kernel
theorem dX4_copyFrom_68 : decode cX4_copyFrom 68 = .ok (.aload_n 1, 1) := by decide +kernel
theorem dX4_copyFrom_69 : decode cX4_copyFrom 69 = .ok (.getfield 24, 3) := by decide +kernel
theorem dX4_copyFrom_72 : decode cX4_copyFrom 72 = .ok (.iconst 0, 1) := by decide +kernel
theorem dX4_copyFrom_73 : decode cX4_copyFrom 73 = .ok (.aload_n 0, 1) := by decide +kernel
theorem dX4_copyFrom_74 : decode cX4_copyFrom 74 = .ok (.getfield 24, 3) := by decide +kernel
theorem dX4_copyFrom_77 : decode cX4_copyFrom 77 = .ok (.iconst 0, 1) := by decide +kernel
theorem dX4_copyFrom_78 : decode cX4_copyFrom 78 = .ok (.bipush 7, 2) := by decide +kernel
theorem dX4_copyFrom_80 : decode cX4_copyFrom 80 = .ok (.invokestatic 49, 3) := by decide +kernel
theorem dX4_copyFrom_83 : decode cX4_copyFrom 83 = .ok (.aload_n 1, 1) := by decide +kernel
theorem dX4_copyFrom_84 : decode cX4_copyFrom 84 = .ok (.getfield 27, 3) := by decide +kernel
theorem dX4_copyFrom_87 : decode cX4_copyFrom 87 = .ok (.iconst 0, 1) := by decide +kernel
theorem dX4_copyFrom_88 : decode cX4_copyFrom 88 = .ok (.aload_n 0, 1) := by decide +kernel
theorem dX4_copyFrom_89 : decode cX4_copyFrom 89 = .ok (.getfield 27, 3) := by decide +kernel
theorem dX4_copyFrom_92 : decode cX4_copyFrom 92 = .ok (.iconst 0, 1) := by decide +kernel
theorem dX4_copyFrom_93 : decode cX4_copyFrom 93 = .ok (.bipush 7, 2) := by decide +kernel
theorem dX4_copyFrom_95 : decode cX4_copyFrom 95 = .ok (.invokestatic 49, 3) := by decide +kernel
theorem dX4_copyFrom_98 : decode cX4_copyFrom 98 = .ok (.aload_n 1, 1) := by decide +kernel
theorem dX4_copyFrom_99 : decode cX4_copyFrom 99 = .ok (.getfield 30, 3) := by decide +kernel
theorem t254 : Cond.fieldLink RX4 30 "LikenessPound$Life" "keptWhite" "[I" ∈ GW := gw_mem 368 (by decide +kernel) (by decide +kernel)
theorem gf_X4_30 {p : Program} {l : Launch} {e : Env} {R : Room} {s : State} {m : MethodId} {args : Array Value} {below : List Frame} {meth : Method} {c : Code} {H : Heap} {locs : List Loc} {cells slots : Nat} {Q : State → Prop} {cc : ByteArray} {pc : Nat} {ls : Array Slot} {rest : List Value} {D : va_G} {a : Nat} {tys : List (ClassId × FieldType)} {ws : va_W} (hx : p.tables.exec = Jvm.exec) (hb : c.code = cc) (hts : ∀ w ∈ GW, w.before args s = true) (hown : s.vm.findClass RX4 = some m.cls) (hK : va_K D vwCl tys s) (hP : va_P D vwCl ws H) (q0 : Nat) {fs : List Value} (he : ws[q0]? = some (a, .inr (5, fs))) {v : Value} (hv : fs[6]? = some v) (hdg : decode cc pc = .ok (.getfield 30, 3)) (kk : W p l e R s m args below meth c H locs cells slots Q (F0 m (pc + 3) ls (v :: rest))) : W p l e R s m args below meth c H locs cells slots Q (F0 m pc ls (.ref a :: rest)) := va_get (C := RX4) (T := TX4) (N := 11) (ci := 5) hx hb hts inX4 hown hK hP q0 he rfl 6 (by decide) (hts _ t254) (fun _ h => h) hv hdg kk
theorem dX4_copyFrom_102 : decode cX4_copyFrom 102 = .ok (.iconst 0, 1) := by decide +kernel
theorem dX4_copyFrom_103 : decode cX4_copyFrom 103 = .ok (.aload_n 0, 1) := by decide +kernel
theorem dX4_copyFrom_104 : decode cX4_copyFrom 104 = .ok (.getfield 30, 3) := by decide +kernel
theorem dX4_copyFrom_107 : decode cX4_copyFrom 107 = .ok (.iconst 0, 1) := by decide +kernel
theorem dX4_copyFrom_108 : decode cX4_copyFrom 108 = .ok (.bipush 7, 2) := by decide +kernel
theorem dX4_copyFrom_110 : decode cX4_copyFrom 110 = .ok (.invokestatic 49, 3) := by decide +kernel
theorem dX4_copyFrom_113 : decode cX4_copyFrom 113 = .ok (.aload_n 1, 1) := by decide +kernel
theorem dX4_copyFrom_114 : decode cX4_copyFrom 114 = .ok (.getfield 33, 3) := by decide +kernel
theorem t257 : Cond.fieldLink RX4 33 "LikenessPound$Life" "keptDark" "[I" ∈ GW := gw_mem 371 (by decide +kernel) (by decide +kernel)
theorem gf_X4_33 {p : Program} {l : Launch} {e : Env} {R : Room} {s : State} {m : MethodId} {args : Array Value} {below : List Frame} {meth : Method} {c : Code} {H : Heap} {locs : List Loc} {cells slots : Nat} {Q : State → Prop} {cc : ByteArray} {pc : Nat} {ls : Array Slot} {rest : List Value} {D : va_G} {a : Nat} {tys : List (ClassId × FieldType)} {ws : va_W} (hx : p.tables.exec = Jvm.exec) (hb : c.code = cc) (hts : ∀ w ∈ GW, w.before args s = true) (hown : s.vm.findClass RX4 = some m.cls) (hK : va_K D vwCl tys s) (hP : va_P D vwCl ws H) (q0 : Nat) {fs : List Value} (he : ws[q0]? = some (a, .inr (5, fs))) {v : Value} (hv : fs[7]? = some v) (hdg : decode cc pc = .ok (.getfield 33, 3)) (kk : W p l e R s m args below meth c H locs cells slots Q (F0 m (pc + 3) ls (v :: rest))) : W p l e R s m args below meth c H locs cells slots Q (F0 m pc ls (.ref a :: rest)) := va_get (C := RX4) (T := TX4) (N := 11) (ci := 5) hx hb hts inX4 hown hK hP q0 he rfl 7 (by decide) (hts _ t257) (fun _ h => h) hv hdg kk
theorem dX4_copyFrom_117 : decode cX4_copyFrom 117 = .ok (.iconst 0, 1) := by decide +kernel
theorem dX4_copyFrom_118 : decode cX4_copyFrom 118 = .ok (.aload_n 0, 1) := by decide +kernel
theorem dX4_copyFrom_119 : decode cX4_copyFrom 119 = .ok (.getfield 33, 3) := by decide +kernel
theorem dX4_copyFrom_122 : decode cX4_copyFrom 122 = .ok (.iconst 0, 1) := by decide +kernel
theorem dX4_copyFrom_123 : decode cX4_copyFrom 123 = .ok (.bipush 7, 2) := by decide +kernel
theorem dX4_copyFrom_125 : decode cX4_copyFrom 125 = .ok (.invokestatic 49, 3) := by decide +kernel
theorem dX4_copyFrom_128 : decode cX4_copyFrom 128 = .ok (.aload_n 1, 1) := by decide +kernel
theorem dX4_copyFrom_129 : decode cX4_copyFrom 129 = .ok (.getfield 36, 3) := by decide +kernel
theorem t260 : Cond.fieldLink RX4 36 "LikenessPound$Life" "keptYear" "[I" ∈ GW := gw_mem 374 (by decide +kernel) (by decide +kernel)
theorem gf_X4_36 {p : Program} {l : Launch} {e : Env} {R : Room} {s : State} {m : MethodId} {args : Array Value} {below : List Frame} {meth : Method} {c : Code} {H : Heap} {locs : List Loc} {cells slots : Nat} {Q : State → Prop} {cc : ByteArray} {pc : Nat} {ls : Array Slot} {rest : List Value} {D : va_G} {a : Nat} {tys : List (ClassId × FieldType)} {ws : va_W} (hx : p.tables.exec = Jvm.exec) (hb : c.code = cc) (hts : ∀ w ∈ GW, w.before args s = true) (hown : s.vm.findClass RX4 = some m.cls) (hK : va_K D vwCl tys s) (hP : va_P D vwCl ws H) (q0 : Nat) {fs : List Value} (he : ws[q0]? = some (a, .inr (5, fs))) {v : Value} (hv : fs[8]? = some v) (hdg : decode cc pc = .ok (.getfield 36, 3)) (kk : W p l e R s m args below meth c H locs cells slots Q (F0 m (pc + 3) ls (v :: rest))) : W p l e R s m args below meth c H locs cells slots Q (F0 m pc ls (.ref a :: rest)) := va_get (C := RX4) (T := TX4) (N := 11) (ci := 5) hx hb hts inX4 hown hK hP q0 he rfl 8 (by decide) (hts _ t260) (fun _ h => h) hv hdg kk
theorem dX4_copyFrom_132 : decode cX4_copyFrom 132 = .ok (.iconst 0, 1) := by decide +kernel
theorem dX4_copyFrom_133 : decode cX4_copyFrom 133 = .ok (.aload_n 0, 1) := by decide +kernel
theorem dX4_copyFrom_134 : decode cX4_copyFrom 134 = .ok (.getfield 36, 3) := by decide +kernel
theorem dX4_copyFrom_137 : decode cX4_copyFrom 137 = .ok (.iconst 0, 1) := by decide +kernel
theorem dX4_copyFrom_138 : decode cX4_copyFrom 138 = .ok (.bipush 7, 2) := by decide +kernel
theorem dX4_copyFrom_140 : decode cX4_copyFrom 140 = .ok (.invokestatic 49, 3) := by decide +kernel
theorem dX4_copyFrom_143 : decode cX4_copyFrom 143 = .ok (.aload_n 1, 1) := by decide +kernel
theorem dX4_copyFrom_144 : decode cX4_copyFrom 144 = .ok (.getfield 39, 3) := by decide +kernel
theorem t263 : Cond.fieldLink RX4 39 "LikenessPound$Life" "keptAge" "[I" ∈ GW := gw_mem 377 (by decide +kernel) (by decide +kernel)
theorem gf_X4_39 {p : Program} {l : Launch} {e : Env} {R : Room} {s : State} {m : MethodId} {args : Array Value} {below : List Frame} {meth : Method} {c : Code} {H : Heap} {locs : List Loc} {cells slots : Nat} {Q : State → Prop} {cc : ByteArray} {pc : Nat} {ls : Array Slot} {rest : List Value} {D : va_G} {a : Nat} {tys : List (ClassId × FieldType)} {ws : va_W} (hx : p.tables.exec = Jvm.exec) (hb : c.code = cc) (hts : ∀ w ∈ GW, w.before args s = true) (hown : s.vm.findClass RX4 = some m.cls) (hK : va_K D vwCl tys s) (hP : va_P D vwCl ws H) (q0 : Nat) {fs : List Value} (he : ws[q0]? = some (a, .inr (5, fs))) {v : Value} (hv : fs[9]? = some v) (hdg : decode cc pc = .ok (.getfield 39, 3)) (kk : W p l e R s m args below meth c H locs cells slots Q (F0 m (pc + 3) ls (v :: rest))) : W p l e R s m args below meth c H locs cells slots Q (F0 m pc ls (.ref a :: rest)) := va_get (C := RX4) (T := TX4) (N := 11) (ci := 5) hx hb hts inX4 hown hK hP q0 he rfl 9 (by decide) (hts _ t263) (fun _ h => h) hv hdg kk
theorem dX4_copyFrom_147 : decode cX4_copyFrom 147 = .ok (.iconst 0, 1) := by decide +kernel
theorem dX4_copyFrom_148 : decode cX4_copyFrom 148 = .ok (.aload_n 0, 1) := by decide +kernel
theorem dX4_copyFrom_149 : decode cX4_copyFrom 149 = .ok (.getfield 39, 3) := by decide +kernel
theorem dX4_copyFrom_152 : decode cX4_copyFrom 152 = .ok (.iconst 0, 1) := by decide +kernel
theorem dX4_copyFrom_153 : decode cX4_copyFrom 153 = .ok (.bipush 7, 2) := by decide +kernel
theorem dX4_copyFrom_155 : decode cX4_copyFrom 155 = .ok (.invokestatic 49, 3) := by decide +kernel
theorem dX4_copyFrom_158 : decode cX4_copyFrom 158 = .ok (.return_, 1) := by decide +kernel
set_option maxHeartbeats 4000000 in
set_option maxRecDepth 100000 in
theorem c_Life_copy (l : Launch) (dC : Nat → ClassId) (dI : Nat → Nat → Nat) (cy : Nat → ClassId) (sz : Nat) (h0 : Nat) (a1 : Nat) (a2 : Nat) (a3 : Nat) (a4 : Nat) (a5 : Nat) (a6 : Nat) (a7 : Nat) (a8 : Nat) (a9 : Nat) (a10 : Nat) (yr : Int32) (f1 : Nat → Int32) (f2 : Nat → Int32) (f3 : Nat → Int32) (f4 : Nat → Int32) (f5 : Nat → Int32) (f6 : Nat → Int32) (f7 : Nat → Int32) (f8 : Nat → Int32) (f9 : Nat → Int32) (f10 : Nat → Int32) (k0 : Nat) (b1 : Nat) (b2 : Nat) (b3 : Nat) (b4 : Nat) (b5 : Nat) (b6 : Nat) (b7 : Nat) (b8 : Nat) (b9 : Nat) (b10 : Nat) (yr2 : Int32) (g1 : Nat → Int32) (g2 : Nat → Int32) (g3 : Nat → Int32) (g4 : Nat → Int32) (g5 : Nat → Int32) (g6 : Nat → Int32) (g7 : Nat → Int32) (g8 : Nat → Int32) (g9 : Nat → Int32) (g10 : Nat → Int32)  : Met l yX4_copyFrom (wl yX4_copyFrom cX4_copyFrom 2 none) ({ frames := 1, cells := 0, slots := 0, locals := 64 }) (Pw (dC, dI) vwCl cy [(h0, .inr (5, [.ref a1, .ref a2, .ref a3, .ref a4, .ref a5, .ref a6, .ref a7, .ref a8, .ref a9, .ref a10, .int yr])), (a1, .inl (cy 0, 7, .inl f1)), (a2, .inl (cy 0, 70, .inl f2)), (a3, .inl (cy 0, 49, .inl f3)), (a4, .inl (cy 0, 7, .inl f4)), (a5, .inl (cy 0, 7, .inl f5)), (a6, .inl (cy 0, 7, .inl f6)), (a7, .inl (cy 0, 7, .inl f7)), (a8, .inl (cy 0, 7, .inl f8)), (a9, .inl (cy 0, 7, .inl f9)), (a10, .inl (cy 0, 7, .inl f10)), (k0, .inr (5, [.ref b1, .ref b2, .ref b3, .ref b4, .ref b5, .ref b6, .ref b7, .ref b8, .ref b9, .ref b10, .int yr2])), (b1, .inl (cy 0, 7, .inl g1)), (b2, .inl (cy 0, 70, .inl g2)), (b3, .inl (cy 0, 49, .inl g3)), (b4, .inl (cy 0, 7, .inl g4)), (b5, .inl (cy 0, 7, .inl g5)), (b6, .inl (cy 0, 7, .inl g6)), (b7, .inl (cy 0, 7, .inl g7)), (b8, .inl (cy 0, 7, .inl g8)), (b9, .inl (cy 0, 7, .inl g9)), (b10, .inl (cy 0, 7, .inl g10))] sz [.ref h0, .ref k0] nE) (Qv (dC, dI) vwCl (fun (u : (Nat → Int32) × (Nat → Int32) × (Nat → Int32) × (Nat → Int32) × (Nat → Int32) × (Nat → Int32) × (Nat → Int32) × (Nat → Int32) × (Nat → Int32) × (Nat → Int32)) => True) (fun (u : (Nat → Int32) × (Nat → Int32) × (Nat → Int32) × (Nat → Int32) × (Nat → Int32) × (Nat → Int32) × (Nat → Int32) × (Nat → Int32) × (Nat → Int32) × (Nat → Int32)) => [(h0, .inr (5, [.ref a1, .ref a2, .ref a3, .ref a4, .ref a5, .ref a6, .ref a7, .ref a8, .ref a9, .ref a10, .int yr2])), (a1, .inl (cy 0, 7, .inl u.1)), (a2, .inl (cy 0, 70, .inl u.2.1)), (a3, .inl (cy 0, 49, .inl u.2.2.1)), (a4, .inl (cy 0, 7, .inl u.2.2.2.1)), (a5, .inl (cy 0, 7, .inl u.2.2.2.2.1)), (a6, .inl (cy 0, 7, .inl u.2.2.2.2.2.1)), (a7, .inl (cy 0, 7, .inl u.2.2.2.2.2.2.1)), (a8, .inl (cy 0, 7, .inl u.2.2.2.2.2.2.2.1)), (a9, .inl (cy 0, 7, .inl u.2.2.2.2.2.2.2.2.1)), (a10, .inl (cy 0, 7, .inl u.2.2.2.2.2.2.2.2.2)), (k0, .inr (5, [.ref b1, .ref b2, .ref b3, .ref b4, .ref b5, .ref b6, .ref b7, .ref b8, .ref b9, .ref b10, .int yr2])), (b1, .inl (cy 0, 7, .inl g1)), (b2, .inl (cy 0, 70, .inl g2)), (b3, .inl (cy 0, 49, .inl g3)), (b4, .inl (cy 0, 7, .inl g4)), (b5, .inl (cy 0, 7, .inl g5)), (b6, .inl (cy 0, 7, .inl g6)), (b7, .inl (cy 0, 7, .inl g7)), (b8, .inl (cy 0, 7, .inl g8)), (b9, .inl (cy 0, 7, .inl g9)), (b10, .inl (cy 0, 7, .inl g10))]) (va_A [(h0, .inr (5, [.ref a1, .ref a2, .ref a3, .ref a4, .ref a5, .ref a6, .ref a7, .ref a8, .ref a9, .ref a10, .int yr])), (a1, .inl (cy 0, 7, .inl f1)), (a2, .inl (cy 0, 70, .inl f2)), (a3, .inl (cy 0, 49, .inl f3)), (a4, .inl (cy 0, 7, .inl f4)), (a5, .inl (cy 0, 7, .inl f5)), (a6, .inl (cy 0, 7, .inl f6)), (a7, .inl (cy 0, 7, .inl f7)), (a8, .inl (cy 0, 7, .inl f8)), (a9, .inl (cy 0, 7, .inl f9)), (a10, .inl (cy 0, 7, .inl f10)), (k0, .inr (5, [.ref b1, .ref b2, .ref b3, .ref b4, .ref b5, .ref b6, .ref b7, .ref b8, .ref b9, .ref b10, .int yr2])), (b1, .inl (cy 0, 7, .inl g1)), (b2, .inl (cy 0, 70, .inl g2)), (b3, .inl (cy 0, 49, .inl g3)), (b4, .inl (cy 0, 7, .inl g4)), (b5, .inl (cy 0, 7, .inl g5)), (b6, .inl (cy 0, 7, .inl g6)), (b7, .inl (cy 0, 7, .inl g7)), (b8, .inl (cy 0, 7, .inl g8)), (b9, .inl (cy 0, 7, .inl g9)), (b10, .inl (cy 0, 7, .inl g10))] sz)) 0 0 (va_A [(h0, .inr (5, [.ref a1, .ref a2, .ref a3, .ref a4, .ref a5, .ref a6, .ref a7, .ref a8, .ref a9, .ref a10, .int yr])), (a1, .inl (cy 0, 7, .inl f1)), (a2, .inl (cy 0, 70, .inl f2)), (a3, .inl (cy 0, 49, .inl f3)), (a4, .inl (cy 0, 7, .inl f4)), (a5, .inl (cy 0, 7, .inl f5)), (a6, .inl (cy 0, 7, .inl f6)), (a7, .inl (cy 0, 7, .inl f7)), (a8, .inl (cy 0, 7, .inl f8)), (a9, .inl (cy 0, 7, .inl f9)), (a10, .inl (cy 0, 7, .inl f10)), (k0, .inr (5, [.ref b1, .ref b2, .ref b3, .ref b4, .ref b5, .ref b6, .ref b7, .ref b8, .ref b9, .ref b10, .int yr2])), (b1, .inl (cy 0, 7, .inl g1)), (b2, .inl (cy 0, 70, .inl g2)), (b3, .inl (cy 0, 49, .inl g3)), (b4, .inl (cy 0, 7, .inl g4)), (b5, .inl (cy 0, 7, .inl g5)), (b6, .inl (cy 0, 7, .inl g6)), (b7, .inl (cy 0, 7, .inl g7)), (b8, .inl (cy 0, 7, .inl g8)), (b9, .inl (cy 0, 7, .inl g9)), (b10, .inl (cy 0, 7, .inl g10))] sz) := by
  refine mw (Qc := Qv (dC, dI) vwCl (fun (u : (Nat → Int32) × (Nat → Int32) × (Nat → Int32) × (Nat → Int32) × (Nat → Int32) × (Nat → Int32) × (Nat → Int32) × (Nat → Int32) × (Nat → Int32) × (Nat → Int32)) => True) (fun (u : (Nat → Int32) × (Nat → Int32) × (Nat → Int32) × (Nat → Int32) × (Nat → Int32) × (Nat → Int32) × (Nat → Int32) × (Nat → Int32) × (Nat → Int32) × (Nat → Int32)) => [(h0, .inr (5, [.ref a1, .ref a2, .ref a3, .ref a4, .ref a5, .ref a6, .ref a7, .ref a8, .ref a9, .ref a10, .int yr2])), (a1, .inl (cy 0, 7, .inl u.1)), (a2, .inl (cy 0, 70, .inl u.2.1)), (a3, .inl (cy 0, 49, .inl u.2.2.1)), (a4, .inl (cy 0, 7, .inl u.2.2.2.1)), (a5, .inl (cy 0, 7, .inl u.2.2.2.2.1)), (a6, .inl (cy 0, 7, .inl u.2.2.2.2.2.1)), (a7, .inl (cy 0, 7, .inl u.2.2.2.2.2.2.1)), (a8, .inl (cy 0, 7, .inl u.2.2.2.2.2.2.2.1)), (a9, .inl (cy 0, 7, .inl u.2.2.2.2.2.2.2.2.1)), (a10, .inl (cy 0, 7, .inl u.2.2.2.2.2.2.2.2.2)), (k0, .inr (5, [.ref b1, .ref b2, .ref b3, .ref b4, .ref b5, .ref b6, .ref b7, .ref b8, .ref b9, .ref b10, .int yr2])), (b1, .inl (cy 0, 7, .inl g1)), (b2, .inl (cy 0, 70, .inl g2)), (b3, .inl (cy 0, 49, .inl g3)), (b4, .inl (cy 0, 7, .inl g4)), (b5, .inl (cy 0, 7, .inl g5)), (b6, .inl (cy 0, 7, .inl g6)), (b7, .inl (cy 0, 7, .inl g7)), (b8, .inl (cy 0, 7, .inl g8)), (b9, .inl (cy 0, 7, .inl g9)), (b10, .inl (cy 0, 7, .inl g10))])) RX4 rfl (by decide +kernel) (Nat.le_of_ble_eq_true rfl) ?_
  intro p e s m below meth c A hx hb hr hlocks av9 hav hts hown hnm hml hK hP hD hA hS hE hAe Q9 hQ9 ls hl
  have hl : lv_has ls 2 [(0, .ref h0), (1, .ref k0)] := hl
  refine lv_aload_n hx hb dX4_copyFrom_0 rfl (lv_at hl 0 rfl) ?_
  refine lv_aload_n hx hb dX4_copyFrom_1 rfl (lv_at hl 1 rfl) ?_
  refine gf_X4_45 hx hb hts hown hK hP 11 rfl rfl dX4_copyFrom_2 ?_
  refine pf_X4_45 hx hb hts hown hK hP hD hS 0 rfl rfl rfl (Nat.le_of_ble_eq_true rfl) dX4_copyFrom_5 (fun H locs hP hD hS => ?_)
  have hP : va_P (dC, dI) vwCl [(h0, .inr (5, [.ref a1, .ref a2, .ref a3, .ref a4, .ref a5, .ref a6, .ref a7, .ref a8, .ref a9, .ref a10, .int yr2])), (a1, .inl (cy 0, 7, .inl f1)), (a2, .inl (cy 0, 70, .inl f2)), (a3, .inl (cy 0, 49, .inl f3)), (a4, .inl (cy 0, 7, .inl f4)), (a5, .inl (cy 0, 7, .inl f5)), (a6, .inl (cy 0, 7, .inl f6)), (a7, .inl (cy 0, 7, .inl f7)), (a8, .inl (cy 0, 7, .inl f8)), (a9, .inl (cy 0, 7, .inl f9)), (a10, .inl (cy 0, 7, .inl f10)), (k0, .inr (5, [.ref b1, .ref b2, .ref b3, .ref b4, .ref b5, .ref b6, .ref b7, .ref b8, .ref b9, .ref b10, .int yr2])), (b1, .inl (cy 0, 7, .inl g1)), (b2, .inl (cy 0, 70, .inl g2)), (b3, .inl (cy 0, 49, .inl g3)), (b4, .inl (cy 0, 7, .inl g4)), (b5, .inl (cy 0, 7, .inl g5)), (b6, .inl (cy 0, 7, .inl g6)), (b7, .inl (cy 0, 7, .inl g7)), (b8, .inl (cy 0, 7, .inl g8)), (b9, .inl (cy 0, 7, .inl g9)), (b10, .inl (cy 0, 7, .inl g10))] H := hP
  have hD : va_D A [(h0, .inr (5, [.ref a1, .ref a2, .ref a3, .ref a4, .ref a5, .ref a6, .ref a7, .ref a8, .ref a9, .ref a10, .int yr2])), (a1, .inl (cy 0, 7, .inl f1)), (a2, .inl (cy 0, 70, .inl f2)), (a3, .inl (cy 0, 49, .inl f3)), (a4, .inl (cy 0, 7, .inl f4)), (a5, .inl (cy 0, 7, .inl f5)), (a6, .inl (cy 0, 7, .inl f6)), (a7, .inl (cy 0, 7, .inl f7)), (a8, .inl (cy 0, 7, .inl f8)), (a9, .inl (cy 0, 7, .inl f9)), (a10, .inl (cy 0, 7, .inl f10)), (k0, .inr (5, [.ref b1, .ref b2, .ref b3, .ref b4, .ref b5, .ref b6, .ref b7, .ref b8, .ref b9, .ref b10, .int yr2])), (b1, .inl (cy 0, 7, .inl g1)), (b2, .inl (cy 0, 70, .inl g2)), (b3, .inl (cy 0, 49, .inl g3)), (b4, .inl (cy 0, 7, .inl g4)), (b5, .inl (cy 0, 7, .inl g5)), (b6, .inl (cy 0, 7, .inl g6)), (b7, .inl (cy 0, 7, .inl g7)), (b8, .inl (cy 0, 7, .inl g8)), (b9, .inl (cy 0, 7, .inl g9)), (b10, .inl (cy 0, 7, .inl g10))] := hD
  refine lv_aload_n hx hb dX4_copyFrom_8 rfl (lv_at hl 1 rfl) ?_
  refine gf_X4_9 hx hb hts hown hK hP 11 rfl rfl dX4_copyFrom_9 ?_
  refine lv_iconst (v := 0) hx hb dX4_copyFrom_12 (by decide) ?_
  refine lv_aload_n hx hb dX4_copyFrom_13 rfl (lv_at hl 0 rfl) ?_
  refine gf_X4_9 hx hb hts hown hK hP 0 rfl rfl dX4_copyFrom_14 ?_
  refine lv_iconst (v := 0) hx hb dX4_copyFrom_17 (by decide) ?_
  refine lv_bipush (v := 7) hx hb dX4_copyFrom_18 (by decide) ?_
  refine va_copyi hx hb (by rw [hml, hl.1]) hown (hts _ t767) (hts _ t769) (hts _ t768) (hts _ t23) hK hP hD hS 12 1 0 0 rfl rfl rfl rfl rfl (by decide) (by decide) (by decide) (by decide) (by decide) (fun _ _ => rfl) (Nat.le_of_ble_eq_true rfl) (Nat.le_of_ble_eq_true rfl) dX4_copyFrom_20 (fun H locs hP hD hS => ?_)
  obtain ⟨f_1, ef_1⟩ : ∃ z : Nat → Int32, z = va_cpy g1 f1 (Int32.toNatClampNeg 0) (Int32.toNatClampNeg 0) (Int32.toNatClampNeg 7) := ⟨_, rfl⟩
  have hP : va_P (dC, dI) vwCl [(h0, .inr (5, [.ref a1, .ref a2, .ref a3, .ref a4, .ref a5, .ref a6, .ref a7, .ref a8, .ref a9, .ref a10, .int yr2])), (a1, .inl (cy 0, 7, .inl f_1)), (a2, .inl (cy 0, 70, .inl f2)), (a3, .inl (cy 0, 49, .inl f3)), (a4, .inl (cy 0, 7, .inl f4)), (a5, .inl (cy 0, 7, .inl f5)), (a6, .inl (cy 0, 7, .inl f6)), (a7, .inl (cy 0, 7, .inl f7)), (a8, .inl (cy 0, 7, .inl f8)), (a9, .inl (cy 0, 7, .inl f9)), (a10, .inl (cy 0, 7, .inl f10)), (k0, .inr (5, [.ref b1, .ref b2, .ref b3, .ref b4, .ref b5, .ref b6, .ref b7, .ref b8, .ref b9, .ref b10, .int yr2])), (b1, .inl (cy 0, 7, .inl g1)), (b2, .inl (cy 0, 70, .inl g2)), (b3, .inl (cy 0, 49, .inl g3)), (b4, .inl (cy 0, 7, .inl g4)), (b5, .inl (cy 0, 7, .inl g5)), (b6, .inl (cy 0, 7, .inl g6)), (b7, .inl (cy 0, 7, .inl g7)), (b8, .inl (cy 0, 7, .inl g8)), (b9, .inl (cy 0, 7, .inl g9)), (b10, .inl (cy 0, 7, .inl g10))] H := by rw [ef_1]; exact hP
  have hD : va_D A [(h0, .inr (5, [.ref a1, .ref a2, .ref a3, .ref a4, .ref a5, .ref a6, .ref a7, .ref a8, .ref a9, .ref a10, .int yr2])), (a1, .inl (cy 0, 7, .inl f_1)), (a2, .inl (cy 0, 70, .inl f2)), (a3, .inl (cy 0, 49, .inl f3)), (a4, .inl (cy 0, 7, .inl f4)), (a5, .inl (cy 0, 7, .inl f5)), (a6, .inl (cy 0, 7, .inl f6)), (a7, .inl (cy 0, 7, .inl f7)), (a8, .inl (cy 0, 7, .inl f8)), (a9, .inl (cy 0, 7, .inl f9)), (a10, .inl (cy 0, 7, .inl f10)), (k0, .inr (5, [.ref b1, .ref b2, .ref b3, .ref b4, .ref b5, .ref b6, .ref b7, .ref b8, .ref b9, .ref b10, .int yr2])), (b1, .inl (cy 0, 7, .inl g1)), (b2, .inl (cy 0, 70, .inl g2)), (b3, .inl (cy 0, 49, .inl g3)), (b4, .inl (cy 0, 7, .inl g4)), (b5, .inl (cy 0, 7, .inl g5)), (b6, .inl (cy 0, 7, .inl g6)), (b7, .inl (cy 0, 7, .inl g7)), (b8, .inl (cy 0, 7, .inl g8)), (b9, .inl (cy 0, 7, .inl g9)), (b10, .inl (cy 0, 7, .inl g10))] := by rw [ef_1]; exact hD
  refine lv_aload_n hx hb dX4_copyFrom_23 rfl (lv_at hl 1 rfl) ?_
  refine gf_X4_15 hx hb hts hown hK hP 11 rfl rfl dX4_copyFrom_24 ?_
  refine lv_iconst (v := 0) hx hb dX4_copyFrom_27 (by decide) ?_
  refine lv_aload_n hx hb dX4_copyFrom_28 rfl (lv_at hl 0 rfl) ?_
  refine gf_X4_15 hx hb hts hown hK hP 0 rfl rfl dX4_copyFrom_29 ?_
  refine lv_iconst (v := 0) hx hb dX4_copyFrom_32 (by decide) ?_
  refine lv_bipush (v := 70) hx hb dX4_copyFrom_33 (by decide) ?_
  refine va_copyi hx hb (by rw [hml, hl.1]) hown (hts _ t767) (hts _ t769) (hts _ t768) (hts _ t23) hK hP hD hS 13 2 0 0 rfl rfl rfl rfl rfl (by decide) (by decide) (by decide) (by decide) (by decide) (fun _ _ => rfl) (Nat.le_of_ble_eq_true rfl) (Nat.le_of_ble_eq_true rfl) dX4_copyFrom_35 (fun H locs hP hD hS => ?_)
  obtain ⟨f_2, ef_2⟩ : ∃ z : Nat → Int32, z = va_cpy g2 f2 (Int32.toNatClampNeg 0) (Int32.toNatClampNeg 0) (Int32.toNatClampNeg 70) := ⟨_, rfl⟩
  have hP : va_P (dC, dI) vwCl [(h0, .inr (5, [.ref a1, .ref a2, .ref a3, .ref a4, .ref a5, .ref a6, .ref a7, .ref a8, .ref a9, .ref a10, .int yr2])), (a1, .inl (cy 0, 7, .inl f_1)), (a2, .inl (cy 0, 70, .inl f_2)), (a3, .inl (cy 0, 49, .inl f3)), (a4, .inl (cy 0, 7, .inl f4)), (a5, .inl (cy 0, 7, .inl f5)), (a6, .inl (cy 0, 7, .inl f6)), (a7, .inl (cy 0, 7, .inl f7)), (a8, .inl (cy 0, 7, .inl f8)), (a9, .inl (cy 0, 7, .inl f9)), (a10, .inl (cy 0, 7, .inl f10)), (k0, .inr (5, [.ref b1, .ref b2, .ref b3, .ref b4, .ref b5, .ref b6, .ref b7, .ref b8, .ref b9, .ref b10, .int yr2])), (b1, .inl (cy 0, 7, .inl g1)), (b2, .inl (cy 0, 70, .inl g2)), (b3, .inl (cy 0, 49, .inl g3)), (b4, .inl (cy 0, 7, .inl g4)), (b5, .inl (cy 0, 7, .inl g5)), (b6, .inl (cy 0, 7, .inl g6)), (b7, .inl (cy 0, 7, .inl g7)), (b8, .inl (cy 0, 7, .inl g8)), (b9, .inl (cy 0, 7, .inl g9)), (b10, .inl (cy 0, 7, .inl g10))] H := by rw [ef_2]; exact hP
  have hD : va_D A [(h0, .inr (5, [.ref a1, .ref a2, .ref a3, .ref a4, .ref a5, .ref a6, .ref a7, .ref a8, .ref a9, .ref a10, .int yr2])), (a1, .inl (cy 0, 7, .inl f_1)), (a2, .inl (cy 0, 70, .inl f_2)), (a3, .inl (cy 0, 49, .inl f3)), (a4, .inl (cy 0, 7, .inl f4)), (a5, .inl (cy 0, 7, .inl f5)), (a6, .inl (cy 0, 7, .inl f6)), (a7, .inl (cy 0, 7, .inl f7)), (a8, .inl (cy 0, 7, .inl f8)), (a9, .inl (cy 0, 7, .inl f9)), (a10, .inl (cy 0, 7, .inl f10)), (k0, .inr (5, [.ref b1, .ref b2, .ref b3, .ref b4, .ref b5, .ref b6, .ref b7, .ref b8, .ref b9, .ref b10, .int yr2])), (b1, .inl (cy 0, 7, .inl g1)), (b2, .inl (cy 0, 70, .inl g2)), (b3, .inl (cy 0, 49, .inl g3)), (b4, .inl (cy 0, 7, .inl g4)), (b5, .inl (cy 0, 7, .inl g5)), (b6, .inl (cy 0, 7, .inl g6)), (b7, .inl (cy 0, 7, .inl g7)), (b8, .inl (cy 0, 7, .inl g8)), (b9, .inl (cy 0, 7, .inl g9)), (b10, .inl (cy 0, 7, .inl g10))] := by rw [ef_2]; exact hD
  refine lv_aload_n hx hb dX4_copyFrom_38 rfl (lv_at hl 1 rfl) ?_
  refine gf_X4_18 hx hb hts hown hK hP 11 rfl rfl dX4_copyFrom_39 ?_
  refine lv_iconst (v := 0) hx hb dX4_copyFrom_42 (by decide) ?_
  refine lv_aload_n hx hb dX4_copyFrom_43 rfl (lv_at hl 0 rfl) ?_
  refine gf_X4_18 hx hb hts hown hK hP 0 rfl rfl dX4_copyFrom_44 ?_
  refine lv_iconst (v := 0) hx hb dX4_copyFrom_47 (by decide) ?_
  refine lv_bipush (v := 49) hx hb dX4_copyFrom_48 (by decide) ?_
  refine va_copyi hx hb (by rw [hml, hl.1]) hown (hts _ t767) (hts _ t769) (hts _ t768) (hts _ t23) hK hP hD hS 14 3 0 0 rfl rfl rfl rfl rfl (by decide) (by decide) (by decide) (by decide) (by decide) (fun _ _ => rfl) (Nat.le_of_ble_eq_true rfl) (Nat.le_of_ble_eq_true rfl) dX4_copyFrom_50 (fun H locs hP hD hS => ?_)
  obtain ⟨f_3, ef_3⟩ : ∃ z : Nat → Int32, z = va_cpy g3 f3 (Int32.toNatClampNeg 0) (Int32.toNatClampNeg 0) (Int32.toNatClampNeg 49) := ⟨_, rfl⟩
  have hP : va_P (dC, dI) vwCl [(h0, .inr (5, [.ref a1, .ref a2, .ref a3, .ref a4, .ref a5, .ref a6, .ref a7, .ref a8, .ref a9, .ref a10, .int yr2])), (a1, .inl (cy 0, 7, .inl f_1)), (a2, .inl (cy 0, 70, .inl f_2)), (a3, .inl (cy 0, 49, .inl f_3)), (a4, .inl (cy 0, 7, .inl f4)), (a5, .inl (cy 0, 7, .inl f5)), (a6, .inl (cy 0, 7, .inl f6)), (a7, .inl (cy 0, 7, .inl f7)), (a8, .inl (cy 0, 7, .inl f8)), (a9, .inl (cy 0, 7, .inl f9)), (a10, .inl (cy 0, 7, .inl f10)), (k0, .inr (5, [.ref b1, .ref b2, .ref b3, .ref b4, .ref b5, .ref b6, .ref b7, .ref b8, .ref b9, .ref b10, .int yr2])), (b1, .inl (cy 0, 7, .inl g1)), (b2, .inl (cy 0, 70, .inl g2)), (b3, .inl (cy 0, 49, .inl g3)), (b4, .inl (cy 0, 7, .inl g4)), (b5, .inl (cy 0, 7, .inl g5)), (b6, .inl (cy 0, 7, .inl g6)), (b7, .inl (cy 0, 7, .inl g7)), (b8, .inl (cy 0, 7, .inl g8)), (b9, .inl (cy 0, 7, .inl g9)), (b10, .inl (cy 0, 7, .inl g10))] H := by rw [ef_3]; exact hP
  have hD : va_D A [(h0, .inr (5, [.ref a1, .ref a2, .ref a3, .ref a4, .ref a5, .ref a6, .ref a7, .ref a8, .ref a9, .ref a10, .int yr2])), (a1, .inl (cy 0, 7, .inl f_1)), (a2, .inl (cy 0, 70, .inl f_2)), (a3, .inl (cy 0, 49, .inl f_3)), (a4, .inl (cy 0, 7, .inl f4)), (a5, .inl (cy 0, 7, .inl f5)), (a6, .inl (cy 0, 7, .inl f6)), (a7, .inl (cy 0, 7, .inl f7)), (a8, .inl (cy 0, 7, .inl f8)), (a9, .inl (cy 0, 7, .inl f9)), (a10, .inl (cy 0, 7, .inl f10)), (k0, .inr (5, [.ref b1, .ref b2, .ref b3, .ref b4, .ref b5, .ref b6, .ref b7, .ref b8, .ref b9, .ref b10, .int yr2])), (b1, .inl (cy 0, 7, .inl g1)), (b2, .inl (cy 0, 70, .inl g2)), (b3, .inl (cy 0, 49, .inl g3)), (b4, .inl (cy 0, 7, .inl g4)), (b5, .inl (cy 0, 7, .inl g5)), (b6, .inl (cy 0, 7, .inl g6)), (b7, .inl (cy 0, 7, .inl g7)), (b8, .inl (cy 0, 7, .inl g8)), (b9, .inl (cy 0, 7, .inl g9)), (b10, .inl (cy 0, 7, .inl g10))] := by rw [ef_3]; exact hD
  refine lv_aload_n hx hb dX4_copyFrom_53 rfl (lv_at hl 1 rfl) ?_
  refine gf_X4_21 hx hb hts hown hK hP 11 rfl rfl dX4_copyFrom_54 ?_
  refine lv_iconst (v := 0) hx hb dX4_copyFrom_57 (by decide) ?_
  refine lv_aload_n hx hb dX4_copyFrom_58 rfl (lv_at hl 0 rfl) ?_
  refine gf_X4_21 hx hb hts hown hK hP 0 rfl rfl dX4_copyFrom_59 ?_
  refine lv_iconst (v := 0) hx hb dX4_copyFrom_62 (by decide) ?_
  refine lv_bipush (v := 7) hx hb dX4_copyFrom_63 (by decide) ?_
  refine va_copyi hx hb (by rw [hml, hl.1]) hown (hts _ t767) (hts _ t769) (hts _ t768) (hts _ t23) hK hP hD hS 15 4 0 0 rfl rfl rfl rfl rfl (by decide) (by decide) (by decide) (by decide) (by decide) (fun _ _ => rfl) (Nat.le_of_ble_eq_true rfl) (Nat.le_of_ble_eq_true rfl) dX4_copyFrom_65 (fun H locs hP hD hS => ?_)
  obtain ⟨f_4, ef_4⟩ : ∃ z : Nat → Int32, z = va_cpy g4 f4 (Int32.toNatClampNeg 0) (Int32.toNatClampNeg 0) (Int32.toNatClampNeg 7) := ⟨_, rfl⟩
  have hP : va_P (dC, dI) vwCl [(h0, .inr (5, [.ref a1, .ref a2, .ref a3, .ref a4, .ref a5, .ref a6, .ref a7, .ref a8, .ref a9, .ref a10, .int yr2])), (a1, .inl (cy 0, 7, .inl f_1)), (a2, .inl (cy 0, 70, .inl f_2)), (a3, .inl (cy 0, 49, .inl f_3)), (a4, .inl (cy 0, 7, .inl f_4)), (a5, .inl (cy 0, 7, .inl f5)), (a6, .inl (cy 0, 7, .inl f6)), (a7, .inl (cy 0, 7, .inl f7)), (a8, .inl (cy 0, 7, .inl f8)), (a9, .inl (cy 0, 7, .inl f9)), (a10, .inl (cy 0, 7, .inl f10)), (k0, .inr (5, [.ref b1, .ref b2, .ref b3, .ref b4, .ref b5, .ref b6, .ref b7, .ref b8, .ref b9, .ref b10, .int yr2])), (b1, .inl (cy 0, 7, .inl g1)), (b2, .inl (cy 0, 70, .inl g2)), (b3, .inl (cy 0, 49, .inl g3)), (b4, .inl (cy 0, 7, .inl g4)), (b5, .inl (cy 0, 7, .inl g5)), (b6, .inl (cy 0, 7, .inl g6)), (b7, .inl (cy 0, 7, .inl g7)), (b8, .inl (cy 0, 7, .inl g8)), (b9, .inl (cy 0, 7, .inl g9)), (b10, .inl (cy 0, 7, .inl g10))] H := by rw [ef_4]; exact hP
  have hD : va_D A [(h0, .inr (5, [.ref a1, .ref a2, .ref a3, .ref a4, .ref a5, .ref a6, .ref a7, .ref a8, .ref a9, .ref a10, .int yr2])), (a1, .inl (cy 0, 7, .inl f_1)), (a2, .inl (cy 0, 70, .inl f_2)), (a3, .inl (cy 0, 49, .inl f_3)), (a4, .inl (cy 0, 7, .inl f_4)), (a5, .inl (cy 0, 7, .inl f5)), (a6, .inl (cy 0, 7, .inl f6)), (a7, .inl (cy 0, 7, .inl f7)), (a8, .inl (cy 0, 7, .inl f8)), (a9, .inl (cy 0, 7, .inl f9)), (a10, .inl (cy 0, 7, .inl f10)), (k0, .inr (5, [.ref b1, .ref b2, .ref b3, .ref b4, .ref b5, .ref b6, .ref b7, .ref b8, .ref b9, .ref b10, .int yr2])), (b1, .inl (cy 0, 7, .inl g1)), (b2, .inl (cy 0, 70, .inl g2)), (b3, .inl (cy 0, 49, .inl g3)), (b4, .inl (cy 0, 7, .inl g4)), (b5, .inl (cy 0, 7, .inl g5)), (b6, .inl (cy 0, 7, .inl g6)), (b7, .inl (cy 0, 7, .inl g7)), (b8, .inl (cy 0, 7, .inl g8)), (b9, .inl (cy 0, 7, .inl g9)), (b10, .inl (cy 0, 7, .inl g10))] := by rw [ef_4]; exact hD
  refine lv_aload_n hx hb dX4_copyFrom_68 rfl (lv_at hl 1 rfl) ?_
  refine gf_X4_24 hx hb hts hown hK hP 11 rfl rfl dX4_copyFrom_69 ?_
  refine lv_iconst (v := 0) hx hb dX4_copyFrom_72 (by decide) ?_
  refine lv_aload_n hx hb dX4_copyFrom_73 rfl (lv_at hl 0 rfl) ?_
  refine gf_X4_24 hx hb hts hown hK hP 0 rfl rfl dX4_copyFrom_74 ?_
  refine lv_iconst (v := 0) hx hb dX4_copyFrom_77 (by decide) ?_
  refine lv_bipush (v := 7) hx hb dX4_copyFrom_78 (by decide) ?_
  refine va_copyi hx hb (by rw [hml, hl.1]) hown (hts _ t767) (hts _ t769) (hts _ t768) (hts _ t23) hK hP hD hS 16 5 0 0 rfl rfl rfl rfl rfl (by decide) (by decide) (by decide) (by decide) (by decide) (fun _ _ => rfl) (Nat.le_of_ble_eq_true rfl) (Nat.le_of_ble_eq_true rfl) dX4_copyFrom_80 (fun H locs hP hD hS => ?_)
  obtain ⟨f_5, ef_5⟩ : ∃ z : Nat → Int32, z = va_cpy g5 f5 (Int32.toNatClampNeg 0) (Int32.toNatClampNeg 0) (Int32.toNatClampNeg 7) := ⟨_, rfl⟩
  have hP : va_P (dC, dI) vwCl [(h0, .inr (5, [.ref a1, .ref a2, .ref a3, .ref a4, .ref a5, .ref a6, .ref a7, .ref a8, .ref a9, .ref a10, .int yr2])), (a1, .inl (cy 0, 7, .inl f_1)), (a2, .inl (cy 0, 70, .inl f_2)), (a3, .inl (cy 0, 49, .inl f_3)), (a4, .inl (cy 0, 7, .inl f_4)), (a5, .inl (cy 0, 7, .inl f_5)), (a6, .inl (cy 0, 7, .inl f6)), (a7, .inl (cy 0, 7, .inl f7)), (a8, .inl (cy 0, 7, .inl f8)), (a9, .inl (cy 0, 7, .inl f9)), (a10, .inl (cy 0, 7, .inl f10)), (k0, .inr (5, [.ref b1, .ref b2, .ref b3, .ref b4, .ref b5, .ref b6, .ref b7, .ref b8, .ref b9, .ref b10, .int yr2])), (b1, .inl (cy 0, 7, .inl g1)), (b2, .inl (cy 0, 70, .inl g2)), (b3, .inl (cy 0, 49, .inl g3)), (b4, .inl (cy 0, 7, .inl g4)), (b5, .inl (cy 0, 7, .inl g5)), (b6, .inl (cy 0, 7, .inl g6)), (b7, .inl (cy 0, 7, .inl g7)), (b8, .inl (cy 0, 7, .inl g8)), (b9, .inl (cy 0, 7, .inl g9)), (b10, .inl (cy 0, 7, .inl g10))] H := by rw [ef_5]; exact hP
  have hD : va_D A [(h0, .inr (5, [.ref a1, .ref a2, .ref a3, .ref a4, .ref a5, .ref a6, .ref a7, .ref a8, .ref a9, .ref a10, .int yr2])), (a1, .inl (cy 0, 7, .inl f_1)), (a2, .inl (cy 0, 70, .inl f_2)), (a3, .inl (cy 0, 49, .inl f_3)), (a4, .inl (cy 0, 7, .inl f_4)), (a5, .inl (cy 0, 7, .inl f_5)), (a6, .inl (cy 0, 7, .inl f6)), (a7, .inl (cy 0, 7, .inl f7)), (a8, .inl (cy 0, 7, .inl f8)), (a9, .inl (cy 0, 7, .inl f9)), (a10, .inl (cy 0, 7, .inl f10)), (k0, .inr (5, [.ref b1, .ref b2, .ref b3, .ref b4, .ref b5, .ref b6, .ref b7, .ref b8, .ref b9, .ref b10, .int yr2])), (b1, .inl (cy 0, 7, .inl g1)), (b2, .inl (cy 0, 70, .inl g2)), (b3, .inl (cy 0, 49, .inl g3)), (b4, .inl (cy 0, 7, .inl g4)), (b5, .inl (cy 0, 7, .inl g5)), (b6, .inl (cy 0, 7, .inl g6)), (b7, .inl (cy 0, 7, .inl g7)), (b8, .inl (cy 0, 7, .inl g8)), (b9, .inl (cy 0, 7, .inl g9)), (b10, .inl (cy 0, 7, .inl g10))] := by rw [ef_5]; exact hD
  refine lv_aload_n hx hb dX4_copyFrom_83 rfl (lv_at hl 1 rfl) ?_
  refine gf_X4_27 hx hb hts hown hK hP 11 rfl rfl dX4_copyFrom_84 ?_
  refine lv_iconst (v := 0) hx hb dX4_copyFrom_87 (by decide) ?_
  refine lv_aload_n hx hb dX4_copyFrom_88 rfl (lv_at hl 0 rfl) ?_
  refine gf_X4_27 hx hb hts hown hK hP 0 rfl rfl dX4_copyFrom_89 ?_
  refine lv_iconst (v := 0) hx hb dX4_copyFrom_92 (by decide) ?_
  refine lv_bipush (v := 7) hx hb dX4_copyFrom_93 (by decide) ?_
  refine va_copyi hx hb (by rw [hml, hl.1]) hown (hts _ t767) (hts _ t769) (hts _ t768) (hts _ t23) hK hP hD hS 17 6 0 0 rfl rfl rfl rfl rfl (by decide) (by decide) (by decide) (by decide) (by decide) (fun _ _ => rfl) (Nat.le_of_ble_eq_true rfl) (Nat.le_of_ble_eq_true rfl) dX4_copyFrom_95 (fun H locs hP hD hS => ?_)
  obtain ⟨f_6, ef_6⟩ : ∃ z : Nat → Int32, z = va_cpy g6 f6 (Int32.toNatClampNeg 0) (Int32.toNatClampNeg 0) (Int32.toNatClampNeg 7) := ⟨_, rfl⟩
  have hP : va_P (dC, dI) vwCl [(h0, .inr (5, [.ref a1, .ref a2, .ref a3, .ref a4, .ref a5, .ref a6, .ref a7, .ref a8, .ref a9, .ref a10, .int yr2])), (a1, .inl (cy 0, 7, .inl f_1)), (a2, .inl (cy 0, 70, .inl f_2)), (a3, .inl (cy 0, 49, .inl f_3)), (a4, .inl (cy 0, 7, .inl f_4)), (a5, .inl (cy 0, 7, .inl f_5)), (a6, .inl (cy 0, 7, .inl f_6)), (a7, .inl (cy 0, 7, .inl f7)), (a8, .inl (cy 0, 7, .inl f8)), (a9, .inl (cy 0, 7, .inl f9)), (a10, .inl (cy 0, 7, .inl f10)), (k0, .inr (5, [.ref b1, .ref b2, .ref b3, .ref b4, .ref b5, .ref b6, .ref b7, .ref b8, .ref b9, .ref b10, .int yr2])), (b1, .inl (cy 0, 7, .inl g1)), (b2, .inl (cy 0, 70, .inl g2)), (b3, .inl (cy 0, 49, .inl g3)), (b4, .inl (cy 0, 7, .inl g4)), (b5, .inl (cy 0, 7, .inl g5)), (b6, .inl (cy 0, 7, .inl g6)), (b7, .inl (cy 0, 7, .inl g7)), (b8, .inl (cy 0, 7, .inl g8)), (b9, .inl (cy 0, 7, .inl g9)), (b10, .inl (cy 0, 7, .inl g10))] H := by rw [ef_6]; exact hP
  have hD : va_D A [(h0, .inr (5, [.ref a1, .ref a2, .ref a3, .ref a4, .ref a5, .ref a6, .ref a7, .ref a8, .ref a9, .ref a10, .int yr2])), (a1, .inl (cy 0, 7, .inl f_1)), (a2, .inl (cy 0, 70, .inl f_2)), (a3, .inl (cy 0, 49, .inl f_3)), (a4, .inl (cy 0, 7, .inl f_4)), (a5, .inl (cy 0, 7, .inl f_5)), (a6, .inl (cy 0, 7, .inl f_6)), (a7, .inl (cy 0, 7, .inl f7)), (a8, .inl (cy 0, 7, .inl f8)), (a9, .inl (cy 0, 7, .inl f9)), (a10, .inl (cy 0, 7, .inl f10)), (k0, .inr (5, [.ref b1, .ref b2, .ref b3, .ref b4, .ref b5, .ref b6, .ref b7, .ref b8, .ref b9, .ref b10, .int yr2])), (b1, .inl (cy 0, 7, .inl g1)), (b2, .inl (cy 0, 70, .inl g2)), (b3, .inl (cy 0, 49, .inl g3)), (b4, .inl (cy 0, 7, .inl g4)), (b5, .inl (cy 0, 7, .inl g5)), (b6, .inl (cy 0, 7, .inl g6)), (b7, .inl (cy 0, 7, .inl g7)), (b8, .inl (cy 0, 7, .inl g8)), (b9, .inl (cy 0, 7, .inl g9)), (b10, .inl (cy 0, 7, .inl g10))] := by rw [ef_6]; exact hD
  refine lv_aload_n hx hb dX4_copyFrom_98 rfl (lv_at hl 1 rfl) ?_
  refine gf_X4_30 hx hb hts hown hK hP 11 rfl rfl dX4_copyFrom_99 ?_
  refine lv_iconst (v := 0) hx hb dX4_copyFrom_102 (by decide) ?_
  refine lv_aload_n hx hb dX4_copyFrom_103 rfl (lv_at hl 0 rfl) ?_
  refine gf_X4_30 hx hb hts hown hK hP 0 rfl rfl dX4_copyFrom_104 ?_
  refine lv_iconst (v := 0) hx hb dX4_copyFrom_107 (by decide) ?_
  refine lv_bipush (v := 7) hx hb dX4_copyFrom_108 (by decide) ?_
  refine va_copyi hx hb (by rw [hml, hl.1]) hown (hts _ t767) (hts _ t769) (hts _ t768) (hts _ t23) hK hP hD hS 18 7 0 0 rfl rfl rfl rfl rfl (by decide) (by decide) (by decide) (by decide) (by decide) (fun _ _ => rfl) (Nat.le_of_ble_eq_true rfl) (Nat.le_of_ble_eq_true rfl) dX4_copyFrom_110 (fun H locs hP hD hS => ?_)
  obtain ⟨f_7, ef_7⟩ : ∃ z : Nat → Int32, z = va_cpy g7 f7 (Int32.toNatClampNeg 0) (Int32.toNatClampNeg 0) (Int32.toNatClampNeg 7) := ⟨_, rfl⟩
  have hP : va_P (dC, dI) vwCl [(h0, .inr (5, [.ref a1, .ref a2, .ref a3, .ref a4, .ref a5, .ref a6, .ref a7, .ref a8, .ref a9, .ref a10, .int yr2])), (a1, .inl (cy 0, 7, .inl f_1)), (a2, .inl (cy 0, 70, .inl f_2)), (a3, .inl (cy 0, 49, .inl f_3)), (a4, .inl (cy 0, 7, .inl f_4)), (a5, .inl (cy 0, 7, .inl f_5)), (a6, .inl (cy 0, 7, .inl f_6)), (a7, .inl (cy 0, 7, .inl f_7)), (a8, .inl (cy 0, 7, .inl f8)), (a9, .inl (cy 0, 7, .inl f9)), (a10, .inl (cy 0, 7, .inl f10)), (k0, .inr (5, [.ref b1, .ref b2, .ref b3, .ref b4, .ref b5, .ref b6, .ref b7, .ref b8, .ref b9, .ref b10, .int yr2])), (b1, .inl (cy 0, 7, .inl g1)), (b2, .inl (cy 0, 70, .inl g2)), (b3, .inl (cy 0, 49, .inl g3)), (b4, .inl (cy 0, 7, .inl g4)), (b5, .inl (cy 0, 7, .inl g5)), (b6, .inl (cy 0, 7, .inl g6)), (b7, .inl (cy 0, 7, .inl g7)), (b8, .inl (cy 0, 7, .inl g8)), (b9, .inl (cy 0, 7, .inl g9)), (b10, .inl (cy 0, 7, .inl g10))] H := by rw [ef_7]; exact hP
  have hD : va_D A [(h0, .inr (5, [.ref a1, .ref a2, .ref a3, .ref a4, .ref a5, .ref a6, .ref a7, .ref a8, .ref a9, .ref a10, .int yr2])), (a1, .inl (cy 0, 7, .inl f_1)), (a2, .inl (cy 0, 70, .inl f_2)), (a3, .inl (cy 0, 49, .inl f_3)), (a4, .inl (cy 0, 7, .inl f_4)), (a5, .inl (cy 0, 7, .inl f_5)), (a6, .inl (cy 0, 7, .inl f_6)), (a7, .inl (cy 0, 7, .inl f_7)), (a8, .inl (cy 0, 7, .inl f8)), (a9, .inl (cy 0, 7, .inl f9)), (a10, .inl (cy 0, 7, .inl f10)), (k0, .inr (5, [.ref b1, .ref b2, .ref b3, .ref b4, .ref b5, .ref b6, .ref b7, .ref b8, .ref b9, .ref b10, .int yr2])), (b1, .inl (cy 0, 7, .inl g1)), (b2, .inl (cy 0, 70, .inl g2)), (b3, .inl (cy 0, 49, .inl g3)), (b4, .inl (cy 0, 7, .inl g4)), (b5, .inl (cy 0, 7, .inl g5)), (b6, .inl (cy 0, 7, .inl g6)), (b7, .inl (cy 0, 7, .inl g7)), (b8, .inl (cy 0, 7, .inl g8)), (b9, .inl (cy 0, 7, .inl g9)), (b10, .inl (cy 0, 7, .inl g10))] := by rw [ef_7]; exact hD
  refine lv_aload_n hx hb dX4_copyFrom_113 rfl (lv_at hl 1 rfl) ?_
  refine gf_X4_33 hx hb hts hown hK hP 11 rfl rfl dX4_copyFrom_114 ?_
  refine lv_iconst (v := 0) hx hb dX4_copyFrom_117 (by decide) ?_
  refine lv_aload_n hx hb dX4_copyFrom_118 rfl (lv_at hl 0 rfl) ?_
  refine gf_X4_33 hx hb hts hown hK hP 0 rfl rfl dX4_copyFrom_119 ?_
  refine lv_iconst (v := 0) hx hb dX4_copyFrom_122 (by decide) ?_
  refine lv_bipush (v := 7) hx hb dX4_copyFrom_123 (by decide) ?_
  refine va_copyi hx hb (by rw [hml, hl.1]) hown (hts _ t767) (hts _ t769) (hts _ t768) (hts _ t23) hK hP hD hS 19 8 0 0 rfl rfl rfl rfl rfl (by decide) (by decide) (by decide) (by decide) (by decide) (fun _ _ => rfl) (Nat.le_of_ble_eq_true rfl) (Nat.le_of_ble_eq_true rfl) dX4_copyFrom_125 (fun H locs hP hD hS => ?_)
  obtain ⟨f_8, ef_8⟩ : ∃ z : Nat → Int32, z = va_cpy g8 f8 (Int32.toNatClampNeg 0) (Int32.toNatClampNeg 0) (Int32.toNatClampNeg 7) := ⟨_, rfl⟩
  have hP : va_P (dC, dI) vwCl [(h0, .inr (5, [.ref a1, .ref a2, .ref a3, .ref a4, .ref a5, .ref a6, .ref a7, .ref a8, .ref a9, .ref a10, .int yr2])), (a1, .inl (cy 0, 7, .inl f_1)), (a2, .inl (cy 0, 70, .inl f_2)), (a3, .inl (cy 0, 49, .inl f_3)), (a4, .inl (cy 0, 7, .inl f_4)), (a5, .inl (cy 0, 7, .inl f_5)), (a6, .inl (cy 0, 7, .inl f_6)), (a7, .inl (cy 0, 7, .inl f_7)), (a8, .inl (cy 0, 7, .inl f_8)), (a9, .inl (cy 0, 7, .inl f9)), (a10, .inl (cy 0, 7, .inl f10)), (k0, .inr (5, [.ref b1, .ref b2, .ref b3, .ref b4, .ref b5, .ref b6, .ref b7, .ref b8, .ref b9, .ref b10, .int yr2])), (b1, .inl (cy 0, 7, .inl g1)), (b2, .inl (cy 0, 70, .inl g2)), (b3, .inl (cy 0, 49, .inl g3)), (b4, .inl (cy 0, 7, .inl g4)), (b5, .inl (cy 0, 7, .inl g5)), (b6, .inl (cy 0, 7, .inl g6)), (b7, .inl (cy 0, 7, .inl g7)), (b8, .inl (cy 0, 7, .inl g8)), (b9, .inl (cy 0, 7, .inl g9)), (b10, .inl (cy 0, 7, .inl g10))] H := by rw [ef_8]; exact hP
  have hD : va_D A [(h0, .inr (5, [.ref a1, .ref a2, .ref a3, .ref a4, .ref a5, .ref a6, .ref a7, .ref a8, .ref a9, .ref a10, .int yr2])), (a1, .inl (cy 0, 7, .inl f_1)), (a2, .inl (cy 0, 70, .inl f_2)), (a3, .inl (cy 0, 49, .inl f_3)), (a4, .inl (cy 0, 7, .inl f_4)), (a5, .inl (cy 0, 7, .inl f_5)), (a6, .inl (cy 0, 7, .inl f_6)), (a7, .inl (cy 0, 7, .inl f_7)), (a8, .inl (cy 0, 7, .inl f_8)), (a9, .inl (cy 0, 7, .inl f9)), (a10, .inl (cy 0, 7, .inl f10)), (k0, .inr (5, [.ref b1, .ref b2, .ref b3, .ref b4, .ref b5, .ref b6, .ref b7, .ref b8, .ref b9, .ref b10, .int yr2])), (b1, .inl (cy 0, 7, .inl g1)), (b2, .inl (cy 0, 70, .inl g2)), (b3, .inl (cy 0, 49, .inl g3)), (b4, .inl (cy 0, 7, .inl g4)), (b5, .inl (cy 0, 7, .inl g5)), (b6, .inl (cy 0, 7, .inl g6)), (b7, .inl (cy 0, 7, .inl g7)), (b8, .inl (cy 0, 7, .inl g8)), (b9, .inl (cy 0, 7, .inl g9)), (b10, .inl (cy 0, 7, .inl g10))] := by rw [ef_8]; exact hD
  refine lv_aload_n hx hb dX4_copyFrom_128 rfl (lv_at hl 1 rfl) ?_
  refine gf_X4_36 hx hb hts hown hK hP 11 rfl rfl dX4_copyFrom_129 ?_
  refine lv_iconst (v := 0) hx hb dX4_copyFrom_132 (by decide) ?_
  refine lv_aload_n hx hb dX4_copyFrom_133 rfl (lv_at hl 0 rfl) ?_
  refine gf_X4_36 hx hb hts hown hK hP 0 rfl rfl dX4_copyFrom_134 ?_
  refine lv_iconst (v := 0) hx hb dX4_copyFrom_137 (by decide) ?_
  refine lv_bipush (v := 7) hx hb dX4_copyFrom_138 (by decide) ?_
  refine va_copyi hx hb (by rw [hml, hl.1]) hown (hts _ t767) (hts _ t769) (hts _ t768) (hts _ t23) hK hP hD hS 20 9 0 0 rfl rfl rfl rfl rfl (by decide) (by decide) (by decide) (by decide) (by decide) (fun _ _ => rfl) (Nat.le_of_ble_eq_true rfl) (Nat.le_of_ble_eq_true rfl) dX4_copyFrom_140 (fun H locs hP hD hS => ?_)
  obtain ⟨f_9, ef_9⟩ : ∃ z : Nat → Int32, z = va_cpy g9 f9 (Int32.toNatClampNeg 0) (Int32.toNatClampNeg 0) (Int32.toNatClampNeg 7) := ⟨_, rfl⟩
  have hP : va_P (dC, dI) vwCl [(h0, .inr (5, [.ref a1, .ref a2, .ref a3, .ref a4, .ref a5, .ref a6, .ref a7, .ref a8, .ref a9, .ref a10, .int yr2])), (a1, .inl (cy 0, 7, .inl f_1)), (a2, .inl (cy 0, 70, .inl f_2)), (a3, .inl (cy 0, 49, .inl f_3)), (a4, .inl (cy 0, 7, .inl f_4)), (a5, .inl (cy 0, 7, .inl f_5)), (a6, .inl (cy 0, 7, .inl f_6)), (a7, .inl (cy 0, 7, .inl f_7)), (a8, .inl (cy 0, 7, .inl f_8)), (a9, .inl (cy 0, 7, .inl f_9)), (a10, .inl (cy 0, 7, .inl f10)), (k0, .inr (5, [.ref b1, .ref b2, .ref b3, .ref b4, .ref b5, .ref b6, .ref b7, .ref b8, .ref b9, .ref b10, .int yr2])), (b1, .inl (cy 0, 7, .inl g1)), (b2, .inl (cy 0, 70, .inl g2)), (b3, .inl (cy 0, 49, .inl g3)), (b4, .inl (cy 0, 7, .inl g4)), (b5, .inl (cy 0, 7, .inl g5)), (b6, .inl (cy 0, 7, .inl g6)), (b7, .inl (cy 0, 7, .inl g7)), (b8, .inl (cy 0, 7, .inl g8)), (b9, .inl (cy 0, 7, .inl g9)), (b10, .inl (cy 0, 7, .inl g10))] H := by rw [ef_9]; exact hP
  have hD : va_D A [(h0, .inr (5, [.ref a1, .ref a2, .ref a3, .ref a4, .ref a5, .ref a6, .ref a7, .ref a8, .ref a9, .ref a10, .int yr2])), (a1, .inl (cy 0, 7, .inl f_1)), (a2, .inl (cy 0, 70, .inl f_2)), (a3, .inl (cy 0, 49, .inl f_3)), (a4, .inl (cy 0, 7, .inl f_4)), (a5, .inl (cy 0, 7, .inl f_5)), (a6, .inl (cy 0, 7, .inl f_6)), (a7, .inl (cy 0, 7, .inl f_7)), (a8, .inl (cy 0, 7, .inl f_8)), (a9, .inl (cy 0, 7, .inl f_9)), (a10, .inl (cy 0, 7, .inl f10)), (k0, .inr (5, [.ref b1, .ref b2, .ref b3, .ref b4, .ref b5, .ref b6, .ref b7, .ref b8, .ref b9, .ref b10, .int yr2])), (b1, .inl (cy 0, 7, .inl g1)), (b2, .inl (cy 0, 70, .inl g2)), (b3, .inl (cy 0, 49, .inl g3)), (b4, .inl (cy 0, 7, .inl g4)), (b5, .inl (cy 0, 7, .inl g5)), (b6, .inl (cy 0, 7, .inl g6)), (b7, .inl (cy 0, 7, .inl g7)), (b8, .inl (cy 0, 7, .inl g8)), (b9, .inl (cy 0, 7, .inl g9)), (b10, .inl (cy 0, 7, .inl g10))] := by rw [ef_9]; exact hD
  refine lv_aload_n hx hb dX4_copyFrom_143 rfl (lv_at hl 1 rfl) ?_
  refine gf_X4_39 hx hb hts hown hK hP 11 rfl rfl dX4_copyFrom_144 ?_
  refine lv_iconst (v := 0) hx hb dX4_copyFrom_147 (by decide) ?_
  refine lv_aload_n hx hb dX4_copyFrom_148 rfl (lv_at hl 0 rfl) ?_
  refine gf_X4_39 hx hb hts hown hK hP 0 rfl rfl dX4_copyFrom_149 ?_
  refine lv_iconst (v := 0) hx hb dX4_copyFrom_152 (by decide) ?_
  refine lv_bipush (v := 7) hx hb dX4_copyFrom_153 (by decide) ?_
  refine va_copyi hx hb (by rw [hml, hl.1]) hown (hts _ t767) (hts _ t769) (hts _ t768) (hts _ t23) hK hP hD hS 21 10 0 0 rfl rfl rfl rfl rfl (by decide) (by decide) (by decide) (by decide) (by decide) (fun _ _ => rfl) (Nat.le_of_ble_eq_true rfl) (Nat.le_of_ble_eq_true rfl) dX4_copyFrom_155 (fun H locs hP hD hS => ?_)
  obtain ⟨f_10, ef_10⟩ : ∃ z : Nat → Int32, z = va_cpy g10 f10 (Int32.toNatClampNeg 0) (Int32.toNatClampNeg 0) (Int32.toNatClampNeg 7) := ⟨_, rfl⟩
  have hP : va_P (dC, dI) vwCl [(h0, .inr (5, [.ref a1, .ref a2, .ref a3, .ref a4, .ref a5, .ref a6, .ref a7, .ref a8, .ref a9, .ref a10, .int yr2])), (a1, .inl (cy 0, 7, .inl f_1)), (a2, .inl (cy 0, 70, .inl f_2)), (a3, .inl (cy 0, 49, .inl f_3)), (a4, .inl (cy 0, 7, .inl f_4)), (a5, .inl (cy 0, 7, .inl f_5)), (a6, .inl (cy 0, 7, .inl f_6)), (a7, .inl (cy 0, 7, .inl f_7)), (a8, .inl (cy 0, 7, .inl f_8)), (a9, .inl (cy 0, 7, .inl f_9)), (a10, .inl (cy 0, 7, .inl f_10)), (k0, .inr (5, [.ref b1, .ref b2, .ref b3, .ref b4, .ref b5, .ref b6, .ref b7, .ref b8, .ref b9, .ref b10, .int yr2])), (b1, .inl (cy 0, 7, .inl g1)), (b2, .inl (cy 0, 70, .inl g2)), (b3, .inl (cy 0, 49, .inl g3)), (b4, .inl (cy 0, 7, .inl g4)), (b5, .inl (cy 0, 7, .inl g5)), (b6, .inl (cy 0, 7, .inl g6)), (b7, .inl (cy 0, 7, .inl g7)), (b8, .inl (cy 0, 7, .inl g8)), (b9, .inl (cy 0, 7, .inl g9)), (b10, .inl (cy 0, 7, .inl g10))] H := by rw [ef_10]; exact hP
  have hD : va_D A [(h0, .inr (5, [.ref a1, .ref a2, .ref a3, .ref a4, .ref a5, .ref a6, .ref a7, .ref a8, .ref a9, .ref a10, .int yr2])), (a1, .inl (cy 0, 7, .inl f_1)), (a2, .inl (cy 0, 70, .inl f_2)), (a3, .inl (cy 0, 49, .inl f_3)), (a4, .inl (cy 0, 7, .inl f_4)), (a5, .inl (cy 0, 7, .inl f_5)), (a6, .inl (cy 0, 7, .inl f_6)), (a7, .inl (cy 0, 7, .inl f_7)), (a8, .inl (cy 0, 7, .inl f_8)), (a9, .inl (cy 0, 7, .inl f_9)), (a10, .inl (cy 0, 7, .inl f_10)), (k0, .inr (5, [.ref b1, .ref b2, .ref b3, .ref b4, .ref b5, .ref b6, .ref b7, .ref b8, .ref b9, .ref b10, .int yr2])), (b1, .inl (cy 0, 7, .inl g1)), (b2, .inl (cy 0, 70, .inl g2)), (b3, .inl (cy 0, 49, .inl g3)), (b4, .inl (cy 0, 7, .inl g4)), (b5, .inl (cy 0, 7, .inl g5)), (b6, .inl (cy 0, 7, .inl g6)), (b7, .inl (cy 0, 7, .inl g7)), (b8, .inl (cy 0, 7, .inl g8)), (b9, .inl (cy 0, 7, .inl g9)), (b10, .inl (cy 0, 7, .inl g10))] := by rw [ef_10]; exact hD
  rw [hQ9]
  exact re_v (f_1, f_2, f_3, f_4, f_5, f_6, f_7, f_8, f_9, f_10) hx hb hr hlocks trivial (hP.sub [0, 1, 2, 3, 4, 5, 6, 7, 8, 9, 10, 11, 12, 13, 14, 15, 16, 17, 18, 19, 20, 21] rfl) (hD.sub [0, 1, 2, 3, 4, 5, 6, 7, 8, 9, 10, 11, 12, 13, 14, 15, 16, 17, 18, 19, 20, 21] rfl rfl) hS dX4_copyFrom_158
abbrev cX1_copyFrom : ByteArray := prog_3_method_3_code
def yX1_copyFrom : MethodName := ⟨RX1, "copyFrom", "(LLikenessPound$Colony;)V"⟩
theorem t1193 : Cond.code yX1_copyFrom cX1_copyFrom 3 none ∈ GW := gw_mem 1307 (by decide +kernel) (by decide +kernel)
theorem dX1_copyFrom_0 : decode cX1_copyFrom 0 = .ok (.aload_n 0, 1) := by decide +kernel
theorem dX1_copyFrom_1 : decode cX1_copyFrom 1 = .ok (.aload_n 1, 1) := by decide +kernel
theorem dX1_copyFrom_2 : decode cX1_copyFrom 2 = .ok (.getfield 36, 3) := by decide +kernel
theorem dX1_copyFrom_5 : decode cX1_copyFrom 5 = .ok (.putfield 36, 3) := by decide +kernel
theorem dX1_copyFrom_8 : decode cX1_copyFrom 8 = .ok (.aload_n 0, 1) := by decide +kernel
theorem dX1_copyFrom_9 : decode cX1_copyFrom 9 = .ok (.aload_n 1, 1) := by decide +kernel
theorem dX1_copyFrom_10 : decode cX1_copyFrom 10 = .ok (.getfield 39, 3) := by decide +kernel
theorem gf_X1_39 {p : Program} {l : Launch} {e : Env} {R : Room} {s : State} {m : MethodId} {args : Array Value} {below : List Frame} {meth : Method} {c : Code} {H : Heap} {locs : List Loc} {cells slots : Nat} {Q : State → Prop} {cc : ByteArray} {pc : Nat} {ls : Array Slot} {rest : List Value} {D : va_G} {a : Nat} {tys : List (ClassId × FieldType)} {ws : va_W} (hx : p.tables.exec = Jvm.exec) (hb : c.code = cc) (hts : ∀ w ∈ GW, w.before args s = true) (hown : s.vm.findClass RX1 = some m.cls) (hK : va_K D vwCl tys s) (hP : va_P D vwCl ws H) (q0 : Nat) {fs : List Value} (he : ws[q0]? = some (a, .inr (2, fs))) {v : Value} (hv : fs[6]? = some v) (hdg : decode cc pc = .ok (.getfield 39, 3)) (kk : W p l e R s m args below meth c H locs cells slots Q (F0 m (pc + 3) ls (v :: rest))) : W p l e R s m args below meth c H locs cells slots Q (F0 m pc ls (.ref a :: rest)) := va_get (C := RX1) (T := TX1) (N := 9) (ci := 2) hx hb hts inX1 hown hK hP q0 he rfl 6 (by decide) (hts _ t396) (fun _ h => h) hv hdg kk
theorem dX1_copyFrom_13 : decode cX1_copyFrom 13 = .ok (.putfield 39, 3) := by decide +kernel
theorem dX1_copyFrom_16 : decode cX1_copyFrom 16 = .ok (.aload_n 0, 1) := by decide +kernel
theorem dX1_copyFrom_17 : decode cX1_copyFrom 17 = .ok (.aload_n 1, 1) := by decide +kernel
theorem dX1_copyFrom_18 : decode cX1_copyFrom 18 = .ok (.getfield 29, 3) := by decide +kernel
theorem gf_X1_29 {p : Program} {l : Launch} {e : Env} {R : Room} {s : State} {m : MethodId} {args : Array Value} {below : List Frame} {meth : Method} {c : Code} {H : Heap} {locs : List Loc} {cells slots : Nat} {Q : State → Prop} {cc : ByteArray} {pc : Nat} {ls : Array Slot} {rest : List Value} {D : va_G} {a : Nat} {tys : List (ClassId × FieldType)} {ws : va_W} (hx : p.tables.exec = Jvm.exec) (hb : c.code = cc) (hts : ∀ w ∈ GW, w.before args s = true) (hown : s.vm.findClass RX1 = some m.cls) (hK : va_K D vwCl tys s) (hP : va_P D vwCl ws H) (q0 : Nat) {fs : List Value} (he : ws[q0]? = some (a, .inr (2, fs))) {v : Value} (hv : fs[7]? = some v) (hdg : decode cc pc = .ok (.getfield 29, 3)) (kk : W p l e R s m args below meth c H locs cells slots Q (F0 m (pc + 3) ls (v :: rest))) : W p l e R s m args below meth c H locs cells slots Q (F0 m pc ls (.ref a :: rest)) := va_get (C := RX1) (T := TX1) (N := 9) (ci := 2) hx hb hts inX1 hown hK hP q0 he rfl 7 (by decide) (hts _ t402) (fun _ h => h) hv hdg kk
theorem dX1_copyFrom_21 : decode cX1_copyFrom 21 = .ok (.putfield 29, 3) := by decide +kernel
theorem dX1_copyFrom_24 : decode cX1_copyFrom 24 = .ok (.aload_n 0, 1) := by decide +kernel
theorem dX1_copyFrom_25 : decode cX1_copyFrom 25 = .ok (.aload_n 1, 1) := by decide +kernel
theorem dX1_copyFrom_26 : decode cX1_copyFrom 26 = .ok (.getfield 33, 3) := by decide +kernel
theorem gf_X1_33 {p : Program} {l : Launch} {e : Env} {R : Room} {s : State} {m : MethodId} {args : Array Value} {below : List Frame} {meth : Method} {c : Code} {H : Heap} {locs : List Loc} {cells slots : Nat} {Q : State → Prop} {cc : ByteArray} {pc : Nat} {ls : Array Slot} {rest : List Value} {D : va_G} {a : Nat} {tys : List (ClassId × FieldType)} {ws : va_W} (hx : p.tables.exec = Jvm.exec) (hb : c.code = cc) (hts : ∀ w ∈ GW, w.before args s = true) (hown : s.vm.findClass RX1 = some m.cls) (hK : va_K D vwCl tys s) (hP : va_P D vwCl ws H) (q0 : Nat) {fs : List Value} (he : ws[q0]? = some (a, .inr (2, fs))) {v : Value} (hv : fs[8]? = some v) (hdg : decode cc pc = .ok (.getfield 33, 3)) (kk : W p l e R s m args below meth c H locs cells slots Q (F0 m (pc + 3) ls (v :: rest))) : W p l e R s m args below meth c H locs cells slots Q (F0 m pc ls (.ref a :: rest)) := va_get (C := RX1) (T := TX1) (N := 9) (ci := 2) hx hb hts inX1 hown hK hP q0 he rfl 8 (by decide) (hts _ t406) (fun _ h => h) hv hdg kk
theorem dX1_copyFrom_29 : decode cX1_copyFrom 29 = .ok (.putfield 33, 3) := by decide +kernel
theorem dX1_copyFrom_32 : decode cX1_copyFrom 32 = .ok (.iconst 0, 1) := by decide +kernel
theorem dX1_copyFrom_33 : decode cX1_copyFrom 33 = .ok (.istore_n 2, 1) := by decide +kernel
theorem dX1_copyFrom_34 : decode cX1_copyFrom 34 = .ok (.iload_n 2, 1) := by decide +kernel
theorem dX1_copyFrom_35 : decode cX1_copyFrom 35 = .ok (.bipush 7, 2) := by decide +kernel
theorem dX1_copyFrom_37 : decode cX1_copyFrom 37 = .ok (.if_icmp .ge 33, 3) := by decide +kernel
theorem dX1_copyFrom_70 : decode cX1_copyFrom 70 = .ok (.iconst 0, 1) := by decide +kernel
theorem dX1_copyFrom_71 : decode cX1_copyFrom 71 = .ok (.istore_n 2, 1) := by decide +kernel
theorem dX1_copyFrom_72 : decode cX1_copyFrom 72 = .ok (.iload_n 2, 1) := by decide +kernel
theorem dX1_copyFrom_73 : decode cX1_copyFrom 73 = .ok (.bipush 10, 2) := by decide +kernel
theorem dX1_copyFrom_75 : decode cX1_copyFrom 75 = .ok (.if_icmp .ge 45, 3) := by decide +kernel
theorem dX1_copyFrom_120 : decode cX1_copyFrom 120 = .ok (.return_, 1) := by decide +kernel
theorem dX1_copyFrom_78 : decode cX1_copyFrom 78 = .ok (.aload_n 0, 1) := by decide +kernel
theorem dX1_copyFrom_79 : decode cX1_copyFrom 79 = .ok (.getfield 15, 3) := by decide +kernel
theorem t375 : Cond.fieldLink RX1 15 "LikenessPound$Colony" "deedCode" "[J" ∈ GW := gw_mem 489 (by decide +kernel) (by decide +kernel)
theorem gf_X1_15 {p : Program} {l : Launch} {e : Env} {R : Room} {s : State} {m : MethodId} {args : Array Value} {below : List Frame} {meth : Method} {c : Code} {H : Heap} {locs : List Loc} {cells slots : Nat} {Q : State → Prop} {cc : ByteArray} {pc : Nat} {ls : Array Slot} {rest : List Value} {D : va_G} {a : Nat} {tys : List (ClassId × FieldType)} {ws : va_W} (hx : p.tables.exec = Jvm.exec) (hb : c.code = cc) (hts : ∀ w ∈ GW, w.before args s = true) (hown : s.vm.findClass RX1 = some m.cls) (hK : va_K D vwCl tys s) (hP : va_P D vwCl ws H) (q0 : Nat) {fs : List Value} (he : ws[q0]? = some (a, .inr (2, fs))) {v : Value} (hv : fs[1]? = some v) (hdg : decode cc pc = .ok (.getfield 15, 3)) (kk : W p l e R s m args below meth c H locs cells slots Q (F0 m (pc + 3) ls (v :: rest))) : W p l e R s m args below meth c H locs cells slots Q (F0 m pc ls (.ref a :: rest)) := va_get (C := RX1) (T := TX1) (N := 9) (ci := 2) hx hb hts inX1 hown hK hP q0 he rfl 1 (by decide) (hts _ t375) (fun _ h => h) hv hdg kk
theorem dX1_copyFrom_82 : decode cX1_copyFrom 82 = .ok (.iload_n 2, 1) := by decide +kernel
theorem dX1_copyFrom_83 : decode cX1_copyFrom 83 = .ok (.aload_n 1, 1) := by decide +kernel
theorem dX1_copyFrom_84 : decode cX1_copyFrom 84 = .ok (.getfield 15, 3) := by decide +kernel
theorem dX1_copyFrom_87 : decode cX1_copyFrom 87 = .ok (.iload_n 2, 1) := by decide +kernel
theorem dX1_copyFrom_88 : decode cX1_copyFrom 88 = .ok (.laload, 1) := by decide +kernel
theorem dX1_copyFrom_89 : decode cX1_copyFrom 89 = .ok (.lastore, 1) := by decide +kernel
theorem dX1_copyFrom_90 : decode cX1_copyFrom 90 = .ok (.aload_n 0, 1) := by decide +kernel
theorem dX1_copyFrom_91 : decode cX1_copyFrom 91 = .ok (.getfield 18, 3) := by decide +kernel
theorem t377 : Cond.fieldLink RX1 18 "LikenessPound$Colony" "weight" "[I" ∈ GW := gw_mem 491 (by decide +kernel) (by decide +kernel)
theorem gf_X1_18 {p : Program} {l : Launch} {e : Env} {R : Room} {s : State} {m : MethodId} {args : Array Value} {below : List Frame} {meth : Method} {c : Code} {H : Heap} {locs : List Loc} {cells slots : Nat} {Q : State → Prop} {cc : ByteArray} {pc : Nat} {ls : Array Slot} {rest : List Value} {D : va_G} {a : Nat} {tys : List (ClassId × FieldType)} {ws : va_W} (hx : p.tables.exec = Jvm.exec) (hb : c.code = cc) (hts : ∀ w ∈ GW, w.before args s = true) (hown : s.vm.findClass RX1 = some m.cls) (hK : va_K D vwCl tys s) (hP : va_P D vwCl ws H) (q0 : Nat) {fs : List Value} (he : ws[q0]? = some (a, .inr (2, fs))) {v : Value} (hv : fs[2]? = some v) (hdg : decode cc pc = .ok (.getfield 18, 3)) (kk : W p l e R s m args below meth c H locs cells slots Q (F0 m (pc + 3) ls (v :: rest))) : W p l e R s m args below meth c H locs cells slots Q (F0 m pc ls (.ref a :: rest)) := va_get (C := RX1) (T := TX1) (N := 9) (ci := 2) hx hb hts inX1 hown hK hP q0 he rfl 2 (by decide) (hts _ t377) (fun _ h => h) hv hdg kk
theorem dX1_copyFrom_94 : decode cX1_copyFrom 94 = .ok (.iload_n 2, 1) := by decide +kernel
theorem dX1_copyFrom_95 : decode cX1_copyFrom 95 = .ok (.aload_n 1, 1) := by decide +kernel
theorem dX1_copyFrom_96 : decode cX1_copyFrom 96 = .ok (.getfield 18, 3) := by decide +kernel
theorem dX1_copyFrom_99 : decode cX1_copyFrom 99 = .ok (.iload_n 2, 1) := by decide +kernel
theorem dX1_copyFrom_100 : decode cX1_copyFrom 100 = .ok (.iaload, 1) := by decide +kernel
theorem dX1_copyFrom_101 : decode cX1_copyFrom 101 = .ok (.iastore, 1) := by decide +kernel
theorem dX1_copyFrom_102 : decode cX1_copyFrom 102 = .ok (.aload_n 0, 1) := by decide +kernel
theorem dX1_copyFrom_103 : decode cX1_copyFrom 103 = .ok (.getfield 22, 3) := by decide +kernel
theorem t383 : Cond.fieldLink RX1 22 "LikenessPound$Colony" "crime" "[Z" ∈ GW := gw_mem 497 (by decide +kernel) (by decide +kernel)
theorem gf_X1_22 {p : Program} {l : Launch} {e : Env} {R : Room} {s : State} {m : MethodId} {args : Array Value} {below : List Frame} {meth : Method} {c : Code} {H : Heap} {locs : List Loc} {cells slots : Nat} {Q : State → Prop} {cc : ByteArray} {pc : Nat} {ls : Array Slot} {rest : List Value} {D : va_G} {a : Nat} {tys : List (ClassId × FieldType)} {ws : va_W} (hx : p.tables.exec = Jvm.exec) (hb : c.code = cc) (hts : ∀ w ∈ GW, w.before args s = true) (hown : s.vm.findClass RX1 = some m.cls) (hK : va_K D vwCl tys s) (hP : va_P D vwCl ws H) (q0 : Nat) {fs : List Value} (he : ws[q0]? = some (a, .inr (2, fs))) {v : Value} (hv : fs[3]? = some v) (hdg : decode cc pc = .ok (.getfield 22, 3)) (kk : W p l e R s m args below meth c H locs cells slots Q (F0 m (pc + 3) ls (v :: rest))) : W p l e R s m args below meth c H locs cells slots Q (F0 m pc ls (.ref a :: rest)) := va_get (C := RX1) (T := TX1) (N := 9) (ci := 2) hx hb hts inX1 hown hK hP q0 he rfl 3 (by decide) (hts _ t383) (fun _ h => h) hv hdg kk
theorem dX1_copyFrom_106 : decode cX1_copyFrom 106 = .ok (.iload_n 2, 1) := by decide +kernel
theorem dX1_copyFrom_107 : decode cX1_copyFrom 107 = .ok (.aload_n 1, 1) := by decide +kernel
theorem dX1_copyFrom_108 : decode cX1_copyFrom 108 = .ok (.getfield 22, 3) := by decide +kernel
theorem dX1_copyFrom_111 : decode cX1_copyFrom 111 = .ok (.iload_n 2, 1) := by decide +kernel
theorem dX1_copyFrom_112 : decode cX1_copyFrom 112 = .ok (.baload, 1) := by decide +kernel
theorem dX1_copyFrom_113 : decode cX1_copyFrom 113 = .ok (.bastore, 1) := by decide +kernel
theorem dX1_copyFrom_114 : decode cX1_copyFrom 114 = .ok (.iinc 2 1, 3) := by decide +kernel
theorem dX1_copyFrom_117 : decode cX1_copyFrom 117 = .ok (.goto (-45), 3) := by decide +kernel
theorem dX1_copyFrom_40 : decode cX1_copyFrom 40 = .ok (.aload_n 0, 1) := by decide +kernel
theorem dX1_copyFrom_41 : decode cX1_copyFrom 41 = .ok (.getfield 9, 3) := by decide +kernel
theorem t373 : Cond.fieldLink RX1 9 "LikenessPound$Colony" "manCode" "[J" ∈ GW := gw_mem 487 (by decide +kernel) (by decide +kernel)
theorem gf_X1_9 {p : Program} {l : Launch} {e : Env} {R : Room} {s : State} {m : MethodId} {args : Array Value} {below : List Frame} {meth : Method} {c : Code} {H : Heap} {locs : List Loc} {cells slots : Nat} {Q : State → Prop} {cc : ByteArray} {pc : Nat} {ls : Array Slot} {rest : List Value} {D : va_G} {a : Nat} {tys : List (ClassId × FieldType)} {ws : va_W} (hx : p.tables.exec = Jvm.exec) (hb : c.code = cc) (hts : ∀ w ∈ GW, w.before args s = true) (hown : s.vm.findClass RX1 = some m.cls) (hK : va_K D vwCl tys s) (hP : va_P D vwCl ws H) (q0 : Nat) {fs : List Value} (he : ws[q0]? = some (a, .inr (2, fs))) {v : Value} (hv : fs[0]? = some v) (hdg : decode cc pc = .ok (.getfield 9, 3)) (kk : W p l e R s m args below meth c H locs cells slots Q (F0 m (pc + 3) ls (v :: rest))) : W p l e R s m args below meth c H locs cells slots Q (F0 m pc ls (.ref a :: rest)) := va_get (C := RX1) (T := TX1) (N := 9) (ci := 2) hx hb hts inX1 hown hK hP q0 he rfl 0 (by decide) (hts _ t373) (fun _ h => h) hv hdg kk
theorem dX1_copyFrom_44 : decode cX1_copyFrom 44 = .ok (.iload_n 2, 1) := by decide +kernel
theorem dX1_copyFrom_45 : decode cX1_copyFrom 45 = .ok (.aload_n 1, 1) := by decide +kernel
theorem dX1_copyFrom_46 : decode cX1_copyFrom 46 = .ok (.getfield 9, 3) := by decide +kernel
theorem dX1_copyFrom_49 : decode cX1_copyFrom 49 = .ok (.iload_n 2, 1) := by decide +kernel
theorem dX1_copyFrom_50 : decode cX1_copyFrom 50 = .ok (.laload, 1) := by decide +kernel
theorem dX1_copyFrom_51 : decode cX1_copyFrom 51 = .ok (.lastore, 1) := by decide +kernel
theorem dX1_copyFrom_52 : decode cX1_copyFrom 52 = .ok (.aload_n 0, 1) := by decide +kernel
theorem dX1_copyFrom_53 : decode cX1_copyFrom 53 = .ok (.getfield 26, 3) := by decide +kernel
theorem dX1_copyFrom_56 : decode cX1_copyFrom 56 = .ok (.iload_n 2, 1) := by decide +kernel
theorem dX1_copyFrom_57 : decode cX1_copyFrom 57 = .ok (.aload_n 1, 1) := by decide +kernel
theorem dX1_copyFrom_58 : decode cX1_copyFrom 58 = .ok (.getfield 26, 3) := by decide +kernel
theorem dX1_copyFrom_61 : decode cX1_copyFrom 61 = .ok (.iload_n 2, 1) := by decide +kernel
theorem dX1_copyFrom_62 : decode cX1_copyFrom 62 = .ok (.iaload, 1) := by decide +kernel
theorem dX1_copyFrom_63 : decode cX1_copyFrom 63 = .ok (.iastore, 1) := by decide +kernel
theorem dX1_copyFrom_64 : decode cX1_copyFrom 64 = .ok (.iinc 2 1, 3) := by decide +kernel
theorem dX1_copyFrom_67 : decode cX1_copyFrom 67 = .ok (.goto (-33), 3) := by decide +kernel
set_option maxHeartbeats 4000000 in
set_option maxRecDepth 100000 in
theorem c_Col_copy (l : Launch) (dC : Nat → ClassId) (dI : Nat → Nat → Nat) (cy : Nat → ClassId) (sz : Nat) (h0 : Nat) (a1 : Nat) (a2 : Nat) (a3 : Nat) (a4 : Nat) (a5 : Nat) (xm : Int32) (xd : Int32) (xr : Int32) (xf : Int32) (f1 : Nat → Int64) (f2 : Nat → Int64) (f3 : Nat → Int32) (f4 : Nat → Int32) (f5 : Nat → Int32) (k0 : Nat) (b1 : Nat) (b2 : Nat) (b3 : Nat) (b4 : Nat) (b5 : Nat) (ym : Int32) (yd : Int32) (yr : Int32) (yf : Int32) (g1 : Nat → Int64) (g2 : Nat → Int64) (g3 : Nat → Int32) (g4 : Nat → Int32) (g5 : Nat → Int32)  : Met l yX1_copyFrom (wl yX1_copyFrom cX1_copyFrom 3 none) ({ frames := 1, cells := 0, slots := 0, locals := 64 }) (Pw (dC, dI) vwCl cy [(h0, .inr (2, [.ref a1, .ref a2, .ref a3, .ref a4, .ref a5, .int xm, .int xd, .int xr, .int xf])), (a1, .inl (cy 1, 7, .inr (.inl f1))), (a2, .inl (cy 1, 10, .inr (.inl f2))), (a3, .inl (cy 0, 10, .inl f3)), (a4, .inl (cy 2, 10, .inl f4)), (a5, .inl (cy 0, 7, .inl f5)), (k0, .inr (2, [.ref b1, .ref b2, .ref b3, .ref b4, .ref b5, .int ym, .int yd, .int yr, .int yf])), (b1, .inl (cy 1, 7, .inr (.inl g1))), (b2, .inl (cy 1, 10, .inr (.inl g2))), (b3, .inl (cy 0, 10, .inl g3)), (b4, .inl (cy 2, 10, .inl g4)), (b5, .inl (cy 0, 7, .inl g5))] sz [.ref h0, .ref k0] nE) (Qv (dC, dI) vwCl (fun (u : (Nat → Int64) × (Nat → Int64) × (Nat → Int32) × (Nat → Int32) × (Nat → Int32)) => True) (fun (u : (Nat → Int64) × (Nat → Int64) × (Nat → Int32) × (Nat → Int32) × (Nat → Int32)) => [(h0, .inr (2, [.ref a1, .ref a2, .ref a3, .ref a4, .ref a5, .int ym, .int yd, .int yr, .int yf])), (a1, .inl (cy 1, 7, .inr (.inl u.1))), (a2, .inl (cy 1, 10, .inr (.inl u.2.1))), (a3, .inl (cy 0, 10, .inl u.2.2.1)), (a4, .inl (cy 2, 10, .inl u.2.2.2.1)), (a5, .inl (cy 0, 7, .inl u.2.2.2.2)), (k0, .inr (2, [.ref b1, .ref b2, .ref b3, .ref b4, .ref b5, .int ym, .int yd, .int yr, .int yf])), (b1, .inl (cy 1, 7, .inr (.inl g1))), (b2, .inl (cy 1, 10, .inr (.inl g2))), (b3, .inl (cy 0, 10, .inl g3)), (b4, .inl (cy 2, 10, .inl g4)), (b5, .inl (cy 0, 7, .inl g5))]) (va_A [(h0, .inr (2, [.ref a1, .ref a2, .ref a3, .ref a4, .ref a5, .int xm, .int xd, .int xr, .int xf])), (a1, .inl (cy 1, 7, .inr (.inl f1))), (a2, .inl (cy 1, 10, .inr (.inl f2))), (a3, .inl (cy 0, 10, .inl f3)), (a4, .inl (cy 2, 10, .inl f4)), (a5, .inl (cy 0, 7, .inl f5)), (k0, .inr (2, [.ref b1, .ref b2, .ref b3, .ref b4, .ref b5, .int ym, .int yd, .int yr, .int yf])), (b1, .inl (cy 1, 7, .inr (.inl g1))), (b2, .inl (cy 1, 10, .inr (.inl g2))), (b3, .inl (cy 0, 10, .inl g3)), (b4, .inl (cy 2, 10, .inl g4)), (b5, .inl (cy 0, 7, .inl g5))] sz)) 0 0 (va_A [(h0, .inr (2, [.ref a1, .ref a2, .ref a3, .ref a4, .ref a5, .int xm, .int xd, .int xr, .int xf])), (a1, .inl (cy 1, 7, .inr (.inl f1))), (a2, .inl (cy 1, 10, .inr (.inl f2))), (a3, .inl (cy 0, 10, .inl f3)), (a4, .inl (cy 2, 10, .inl f4)), (a5, .inl (cy 0, 7, .inl f5)), (k0, .inr (2, [.ref b1, .ref b2, .ref b3, .ref b4, .ref b5, .int ym, .int yd, .int yr, .int yf])), (b1, .inl (cy 1, 7, .inr (.inl g1))), (b2, .inl (cy 1, 10, .inr (.inl g2))), (b3, .inl (cy 0, 10, .inl g3)), (b4, .inl (cy 2, 10, .inl g4)), (b5, .inl (cy 0, 7, .inl g5))] sz) := by
  refine mw (Qc := Qv (dC, dI) vwCl (fun (u : (Nat → Int64) × (Nat → Int64) × (Nat → Int32) × (Nat → Int32) × (Nat → Int32)) => True) (fun (u : (Nat → Int64) × (Nat → Int64) × (Nat → Int32) × (Nat → Int32) × (Nat → Int32)) => [(h0, .inr (2, [.ref a1, .ref a2, .ref a3, .ref a4, .ref a5, .int ym, .int yd, .int yr, .int yf])), (a1, .inl (cy 1, 7, .inr (.inl u.1))), (a2, .inl (cy 1, 10, .inr (.inl u.2.1))), (a3, .inl (cy 0, 10, .inl u.2.2.1)), (a4, .inl (cy 2, 10, .inl u.2.2.2.1)), (a5, .inl (cy 0, 7, .inl u.2.2.2.2)), (k0, .inr (2, [.ref b1, .ref b2, .ref b3, .ref b4, .ref b5, .int ym, .int yd, .int yr, .int yf])), (b1, .inl (cy 1, 7, .inr (.inl g1))), (b2, .inl (cy 1, 10, .inr (.inl g2))), (b3, .inl (cy 0, 10, .inl g3)), (b4, .inl (cy 2, 10, .inl g4)), (b5, .inl (cy 0, 7, .inl g5))])) RX1 rfl (by decide +kernel) (Nat.le_of_ble_eq_true rfl) ?_
  intro p e s m below meth c A hx hb hr hlocks av9 hav hts hown hnm hml hK hP hD hA hS hE hAe Q9 hQ9 ls hl
  have hl : lv_has ls 3 [(0, .ref h0), (1, .ref k0)] := hl
  refine lv_aload_n hx hb dX1_copyFrom_0 rfl (lv_at hl 0 rfl) ?_
  refine lv_aload_n hx hb dX1_copyFrom_1 rfl (lv_at hl 1 rfl) ?_
  refine gf_X1_36 hx hb hts hown hK hP 6 rfl rfl dX1_copyFrom_2 ?_
  refine pf_X1_36 hx hb hts hown hK hP hD hS 0 rfl rfl rfl (Nat.le_of_ble_eq_true rfl) dX1_copyFrom_5 (fun H locs hP hD hS => ?_)
  have hP : va_P (dC, dI) vwCl [(h0, .inr (2, [.ref a1, .ref a2, .ref a3, .ref a4, .ref a5, .int ym, .int xd, .int xr, .int xf])), (a1, .inl (cy 1, 7, .inr (.inl f1))), (a2, .inl (cy 1, 10, .inr (.inl f2))), (a3, .inl (cy 0, 10, .inl f3)), (a4, .inl (cy 2, 10, .inl f4)), (a5, .inl (cy 0, 7, .inl f5)), (k0, .inr (2, [.ref b1, .ref b2, .ref b3, .ref b4, .ref b5, .int ym, .int yd, .int yr, .int yf])), (b1, .inl (cy 1, 7, .inr (.inl g1))), (b2, .inl (cy 1, 10, .inr (.inl g2))), (b3, .inl (cy 0, 10, .inl g3)), (b4, .inl (cy 2, 10, .inl g4)), (b5, .inl (cy 0, 7, .inl g5))] H := hP
  have hD : va_D A [(h0, .inr (2, [.ref a1, .ref a2, .ref a3, .ref a4, .ref a5, .int ym, .int xd, .int xr, .int xf])), (a1, .inl (cy 1, 7, .inr (.inl f1))), (a2, .inl (cy 1, 10, .inr (.inl f2))), (a3, .inl (cy 0, 10, .inl f3)), (a4, .inl (cy 2, 10, .inl f4)), (a5, .inl (cy 0, 7, .inl f5)), (k0, .inr (2, [.ref b1, .ref b2, .ref b3, .ref b4, .ref b5, .int ym, .int yd, .int yr, .int yf])), (b1, .inl (cy 1, 7, .inr (.inl g1))), (b2, .inl (cy 1, 10, .inr (.inl g2))), (b3, .inl (cy 0, 10, .inl g3)), (b4, .inl (cy 2, 10, .inl g4)), (b5, .inl (cy 0, 7, .inl g5))] := hD
  refine lv_aload_n hx hb dX1_copyFrom_8 rfl (lv_at hl 0 rfl) ?_
  refine lv_aload_n hx hb dX1_copyFrom_9 rfl (lv_at hl 1 rfl) ?_
  refine gf_X1_39 hx hb hts hown hK hP 6 rfl rfl dX1_copyFrom_10 ?_
  refine pf_X1_39 hx hb hts hown hK hP hD hS 0 rfl rfl rfl (Nat.le_of_ble_eq_true rfl) dX1_copyFrom_13 (fun H locs hP hD hS => ?_)
  have hP : va_P (dC, dI) vwCl [(h0, .inr (2, [.ref a1, .ref a2, .ref a3, .ref a4, .ref a5, .int ym, .int yd, .int xr, .int xf])), (a1, .inl (cy 1, 7, .inr (.inl f1))), (a2, .inl (cy 1, 10, .inr (.inl f2))), (a3, .inl (cy 0, 10, .inl f3)), (a4, .inl (cy 2, 10, .inl f4)), (a5, .inl (cy 0, 7, .inl f5)), (k0, .inr (2, [.ref b1, .ref b2, .ref b3, .ref b4, .ref b5, .int ym, .int yd, .int yr, .int yf])), (b1, .inl (cy 1, 7, .inr (.inl g1))), (b2, .inl (cy 1, 10, .inr (.inl g2))), (b3, .inl (cy 0, 10, .inl g3)), (b4, .inl (cy 2, 10, .inl g4)), (b5, .inl (cy 0, 7, .inl g5))] H := hP
  have hD : va_D A [(h0, .inr (2, [.ref a1, .ref a2, .ref a3, .ref a4, .ref a5, .int ym, .int yd, .int xr, .int xf])), (a1, .inl (cy 1, 7, .inr (.inl f1))), (a2, .inl (cy 1, 10, .inr (.inl f2))), (a3, .inl (cy 0, 10, .inl f3)), (a4, .inl (cy 2, 10, .inl f4)), (a5, .inl (cy 0, 7, .inl f5)), (k0, .inr (2, [.ref b1, .ref b2, .ref b3, .ref b4, .ref b5, .int ym, .int yd, .int yr, .int yf])), (b1, .inl (cy 1, 7, .inr (.inl g1))), (b2, .inl (cy 1, 10, .inr (.inl g2))), (b3, .inl (cy 0, 10, .inl g3)), (b4, .inl (cy 2, 10, .inl g4)), (b5, .inl (cy 0, 7, .inl g5))] := hD
  refine lv_aload_n hx hb dX1_copyFrom_16 rfl (lv_at hl 0 rfl) ?_
  refine lv_aload_n hx hb dX1_copyFrom_17 rfl (lv_at hl 1 rfl) ?_
  refine gf_X1_29 hx hb hts hown hK hP 6 rfl rfl dX1_copyFrom_18 ?_
  refine pf_X1_29 hx hb hts hown hK hP hD hS 0 rfl rfl rfl (Nat.le_of_ble_eq_true rfl) dX1_copyFrom_21 (fun H locs hP hD hS => ?_)
  have hP : va_P (dC, dI) vwCl [(h0, .inr (2, [.ref a1, .ref a2, .ref a3, .ref a4, .ref a5, .int ym, .int yd, .int yr, .int xf])), (a1, .inl (cy 1, 7, .inr (.inl f1))), (a2, .inl (cy 1, 10, .inr (.inl f2))), (a3, .inl (cy 0, 10, .inl f3)), (a4, .inl (cy 2, 10, .inl f4)), (a5, .inl (cy 0, 7, .inl f5)), (k0, .inr (2, [.ref b1, .ref b2, .ref b3, .ref b4, .ref b5, .int ym, .int yd, .int yr, .int yf])), (b1, .inl (cy 1, 7, .inr (.inl g1))), (b2, .inl (cy 1, 10, .inr (.inl g2))), (b3, .inl (cy 0, 10, .inl g3)), (b4, .inl (cy 2, 10, .inl g4)), (b5, .inl (cy 0, 7, .inl g5))] H := hP
  have hD : va_D A [(h0, .inr (2, [.ref a1, .ref a2, .ref a3, .ref a4, .ref a5, .int ym, .int yd, .int yr, .int xf])), (a1, .inl (cy 1, 7, .inr (.inl f1))), (a2, .inl (cy 1, 10, .inr (.inl f2))), (a3, .inl (cy 0, 10, .inl f3)), (a4, .inl (cy 2, 10, .inl f4)), (a5, .inl (cy 0, 7, .inl f5)), (k0, .inr (2, [.ref b1, .ref b2, .ref b3, .ref b4, .ref b5, .int ym, .int yd, .int yr, .int yf])), (b1, .inl (cy 1, 7, .inr (.inl g1))), (b2, .inl (cy 1, 10, .inr (.inl g2))), (b3, .inl (cy 0, 10, .inl g3)), (b4, .inl (cy 2, 10, .inl g4)), (b5, .inl (cy 0, 7, .inl g5))] := hD
  refine lv_aload_n hx hb dX1_copyFrom_24 rfl (lv_at hl 0 rfl) ?_
  refine lv_aload_n hx hb dX1_copyFrom_25 rfl (lv_at hl 1 rfl) ?_
  refine gf_X1_33 hx hb hts hown hK hP 6 rfl rfl dX1_copyFrom_26 ?_
  refine pf_X1_33 hx hb hts hown hK hP hD hS 0 rfl rfl rfl (Nat.le_of_ble_eq_true rfl) dX1_copyFrom_29 (fun H locs hP hD hS => ?_)
  have hP : va_P (dC, dI) vwCl [(h0, .inr (2, [.ref a1, .ref a2, .ref a3, .ref a4, .ref a5, .int ym, .int yd, .int yr, .int yf])), (a1, .inl (cy 1, 7, .inr (.inl f1))), (a2, .inl (cy 1, 10, .inr (.inl f2))), (a3, .inl (cy 0, 10, .inl f3)), (a4, .inl (cy 2, 10, .inl f4)), (a5, .inl (cy 0, 7, .inl f5)), (k0, .inr (2, [.ref b1, .ref b2, .ref b3, .ref b4, .ref b5, .int ym, .int yd, .int yr, .int yf])), (b1, .inl (cy 1, 7, .inr (.inl g1))), (b2, .inl (cy 1, 10, .inr (.inl g2))), (b3, .inl (cy 0, 10, .inl g3)), (b4, .inl (cy 2, 10, .inl g4)), (b5, .inl (cy 0, 7, .inl g5))] H := hP
  have hD : va_D A [(h0, .inr (2, [.ref a1, .ref a2, .ref a3, .ref a4, .ref a5, .int ym, .int yd, .int yr, .int yf])), (a1, .inl (cy 1, 7, .inr (.inl f1))), (a2, .inl (cy 1, 10, .inr (.inl f2))), (a3, .inl (cy 0, 10, .inl f3)), (a4, .inl (cy 2, 10, .inl f4)), (a5, .inl (cy 0, 7, .inl f5)), (k0, .inr (2, [.ref b1, .ref b2, .ref b3, .ref b4, .ref b5, .int ym, .int yd, .int yr, .int yf])), (b1, .inl (cy 1, 7, .inr (.inl g1))), (b2, .inl (cy 1, 10, .inr (.inl g2))), (b3, .inl (cy 0, 10, .inl g3)), (b4, .inl (cy 2, 10, .inl g4)), (b5, .inl (cy 0, 7, .inl g5))] := hD
  refine lv_iconst (v := 0) hx hb dX1_copyFrom_32 (by decide) ?_
  refine lv_istore_n (lv' := [(2, .int 0), (0, .ref h0), (1, .ref k0)]) hx hb dX1_copyFrom_33 rfl hl (by decide) rfl (fun ls hl => ?_)
  have loop1 : ∀ (n1_ i1 : Nat) (g_2 : Nat → Int64) (g_3 : Nat → Int32) , i1 + n1_ = 7 → ∀ (H : Heap) (locs : List Loc), va_P (dC, dI) vwCl [(h0, .inr (2, [.ref a1, .ref a2, .ref a3, .ref a4, .ref a5, .int ym, .int yd, .int yr, .int yf])), (a1, .inl (cy 1, 7, .inr (.inl g_2))), (a2, .inl (cy 1, 10, .inr (.inl f2))), (a3, .inl (cy 0, 10, .inl f3)), (a4, .inl (cy 2, 10, .inl f4)), (a5, .inl (cy 0, 7, .inl g_3)), (k0, .inr (2, [.ref b1, .ref b2, .ref b3, .ref b4, .ref b5, .int ym, .int yd, .int yr, .int yf])), (b1, .inl (cy 1, 7, .inr (.inl g1))), (b2, .inl (cy 1, 10, .inr (.inl g2))), (b3, .inl (cy 0, 10, .inl g3)), (b4, .inl (cy 2, 10, .inl g4)), (b5, .inl (cy 0, 7, .inl g5))] H → va_D A [(h0, .inr (2, [.ref a1, .ref a2, .ref a3, .ref a4, .ref a5, .int ym, .int yd, .int yr, .int yf])), (a1, .inl (cy 1, 7, .inr (.inl g_2))), (a2, .inl (cy 1, 10, .inr (.inl f2))), (a3, .inl (cy 0, 10, .inl f3)), (a4, .inl (cy 2, 10, .inl f4)), (a5, .inl (cy 0, 7, .inl g_3)), (k0, .inr (2, [.ref b1, .ref b2, .ref b3, .ref b4, .ref b5, .int ym, .int yd, .int yr, .int yf])), (b1, .inl (cy 1, 7, .inr (.inl g1))), (b2, .inl (cy 1, 10, .inr (.inl g2))), (b3, .inl (cy 0, 10, .inl g3)), (b4, .inl (cy 2, 10, .inl g4)), (b5, .inl (cy 0, 7, .inl g5))] → va_S A s.heap H locs → ∀ ls : Array Slot, lv_has ls 3 [(0, .ref h0), (1, .ref k0), (2, .int (nI i1))] → W p l e ({ frames := 1, cells := 0, slots := 0, locals := 64 }) s m av9 below meth c H locs 0 0 Q9 (F0 m 34 ls []) := by
    intro n1_
    induction n1_ with
    | zero =>
      intro i1 g_2 g_3  hn1 H locs hP hD hS ls hl
      obtain rfl : i1 = 7 := by omega
      have hl : lv_has ls 3 [(0, .ref h0), (1, .ref k0), (2, .int 7)] := hl
      refine lv_iload_n hx hb dX1_copyFrom_34 rfl (lv_at hl 2 rfl) ?_
      refine lv_bipush (v := 7) hx hb dX1_copyFrom_35 (by decide) ?_
      refine lv_icmp_ge (tgt := 70) hx hb dX1_copyFrom_37 (by decide) (fun _ => ?_) (fun c9 => absurd (by decide) c9)
      refine lv_iconst (v := 0) hx hb dX1_copyFrom_70 (by decide) ?_
      refine lv_istore_n (lv' := [(2, .int 0), (0, .ref h0), (1, .ref k0)]) hx hb dX1_copyFrom_71 rfl hl (by decide) rfl (fun ls hl => ?_)
      have loop4 : ∀ (n4_ i4 : Nat) (g_5 : Nat → Int64) (g_6 : Nat → Int32) (g_7 : Nat → Int32) , i4 + n4_ = 10 → ∀ (H : Heap) (locs : List Loc), va_P (dC, dI) vwCl [(h0, .inr (2, [.ref a1, .ref a2, .ref a3, .ref a4, .ref a5, .int ym, .int yd, .int yr, .int yf])), (a1, .inl (cy 1, 7, .inr (.inl g_2))), (a2, .inl (cy 1, 10, .inr (.inl g_5))), (a3, .inl (cy 0, 10, .inl g_6)), (a4, .inl (cy 2, 10, .inl g_7)), (a5, .inl (cy 0, 7, .inl g_3)), (k0, .inr (2, [.ref b1, .ref b2, .ref b3, .ref b4, .ref b5, .int ym, .int yd, .int yr, .int yf])), (b1, .inl (cy 1, 7, .inr (.inl g1))), (b2, .inl (cy 1, 10, .inr (.inl g2))), (b3, .inl (cy 0, 10, .inl g3)), (b4, .inl (cy 2, 10, .inl g4)), (b5, .inl (cy 0, 7, .inl g5))] H → va_D A [(h0, .inr (2, [.ref a1, .ref a2, .ref a3, .ref a4, .ref a5, .int ym, .int yd, .int yr, .int yf])), (a1, .inl (cy 1, 7, .inr (.inl g_2))), (a2, .inl (cy 1, 10, .inr (.inl g_5))), (a3, .inl (cy 0, 10, .inl g_6)), (a4, .inl (cy 2, 10, .inl g_7)), (a5, .inl (cy 0, 7, .inl g_3)), (k0, .inr (2, [.ref b1, .ref b2, .ref b3, .ref b4, .ref b5, .int ym, .int yd, .int yr, .int yf])), (b1, .inl (cy 1, 7, .inr (.inl g1))), (b2, .inl (cy 1, 10, .inr (.inl g2))), (b3, .inl (cy 0, 10, .inl g3)), (b4, .inl (cy 2, 10, .inl g4)), (b5, .inl (cy 0, 7, .inl g5))] → va_S A s.heap H locs → ∀ ls : Array Slot, lv_has ls 3 [(0, .ref h0), (1, .ref k0), (2, .int (nI i4))] → W p l e ({ frames := 1, cells := 0, slots := 0, locals := 64 }) s m av9 below meth c H locs 0 0 Q9 (F0 m 72 ls []) := by
        intro n4_
        induction n4_ with
        | zero =>
          intro i4 g_5 g_6 g_7  hn4 H locs hP hD hS ls hl
          obtain rfl : i4 = 10 := by omega
          have hl : lv_has ls 3 [(0, .ref h0), (1, .ref k0), (2, .int 10)] := hl
          refine lv_iload_n hx hb dX1_copyFrom_72 rfl (lv_at hl 2 rfl) ?_
          refine lv_bipush (v := 10) hx hb dX1_copyFrom_73 (by decide) ?_
          refine lv_icmp_ge (tgt := 120) hx hb dX1_copyFrom_75 (by decide) (fun _ => ?_) (fun c9 => absurd (by decide) c9)
          rw [hQ9]
          exact re_v (g_2, g_5, g_6, g_7, g_3) hx hb hr hlocks trivial (hP.sub [0, 1, 2, 3, 4, 5, 6, 7, 8, 9, 10, 11] rfl) (hD.sub [0, 1, 2, 3, 4, 5, 6, 7, 8, 9, 10, 11] rfl rfl) hS dX1_copyFrom_120
        | succ n4_ ih4 =>
          intro i4 g_5 g_6 g_7  hn4 H locs hP hD hS ls hl
          refine lv_iload_n hx hb dX1_copyFrom_72 rfl (lv_at hl 2 rfl) ?_
          refine lv_bipush (v := 10) hx hb dX1_copyFrom_73 (by decide) ?_
          refine lv_icmp_ge (tgt := 120) hx hb dX1_copyFrom_75 (by decide) (fun c9 => absurd c9 (nI_ge (a := i4) (b := 10) (by omega) (by decide))) (fun _ => ?_)
          refine lv_aload_n hx hb dX1_copyFrom_78 rfl (lv_at hl 0 rfl) ?_
          refine gf_X1_15 hx hb hts hown hK hP 0 rfl rfl dX1_copyFrom_79 ?_
          refine lv_iload_n hx hb dX1_copyFrom_82 rfl (lv_at hl 2 rfl) ?_
          refine lv_aload_n hx hb dX1_copyFrom_83 rfl (lv_at hl 1 rfl) ?_
          refine gf_X1_15 hx hb hts hown hK hP 6 rfl rfl dX1_copyFrom_84 ?_
          refine lv_iload_n hx hb dX1_copyFrom_87 rfl (lv_at hl 2 rfl) ?_
          refine va_lald hx hb hK hP 8 1 rfl rfl (vp_in_nI (n := i4) (N := 10) (by omega) (by omega)) dX1_copyFrom_88 ?_
          refine as_l (g2 i4) (congrArg g2 (nI_clamp (n := i4) (by omega))) ?_
          refine va_last hx hb hK hP hD hS 2 1 rfl rfl (vp_in_nI (n := i4) (N := 10) (by omega) (by omega)) dX1_copyFrom_89 (fun H locs hP hD hS => ?_)
          obtain ⟨f_8, ef_8⟩ : ∃ z : Nat → Int64, z = vp_updL g_5 (Int32.toNatClampNeg (nI i4)) (g2 i4) := ⟨_, rfl⟩
          have hP : va_P (dC, dI) vwCl [(h0, .inr (2, [.ref a1, .ref a2, .ref a3, .ref a4, .ref a5, .int ym, .int yd, .int yr, .int yf])), (a1, .inl (cy 1, 7, .inr (.inl g_2))), (a2, .inl (cy 1, 10, .inr (.inl f_8))), (a3, .inl (cy 0, 10, .inl g_6)), (a4, .inl (cy 2, 10, .inl g_7)), (a5, .inl (cy 0, 7, .inl g_3)), (k0, .inr (2, [.ref b1, .ref b2, .ref b3, .ref b4, .ref b5, .int ym, .int yd, .int yr, .int yf])), (b1, .inl (cy 1, 7, .inr (.inl g1))), (b2, .inl (cy 1, 10, .inr (.inl g2))), (b3, .inl (cy 0, 10, .inl g3)), (b4, .inl (cy 2, 10, .inl g4)), (b5, .inl (cy 0, 7, .inl g5))] H := by rw [ef_8]; exact hP
          have hD : va_D A [(h0, .inr (2, [.ref a1, .ref a2, .ref a3, .ref a4, .ref a5, .int ym, .int yd, .int yr, .int yf])), (a1, .inl (cy 1, 7, .inr (.inl g_2))), (a2, .inl (cy 1, 10, .inr (.inl f_8))), (a3, .inl (cy 0, 10, .inl g_6)), (a4, .inl (cy 2, 10, .inl g_7)), (a5, .inl (cy 0, 7, .inl g_3)), (k0, .inr (2, [.ref b1, .ref b2, .ref b3, .ref b4, .ref b5, .int ym, .int yd, .int yr, .int yf])), (b1, .inl (cy 1, 7, .inr (.inl g1))), (b2, .inl (cy 1, 10, .inr (.inl g2))), (b3, .inl (cy 0, 10, .inl g3)), (b4, .inl (cy 2, 10, .inl g4)), (b5, .inl (cy 0, 7, .inl g5))] := by rw [ef_8]; exact hD
          rw [(nI_clamp (n := i4) (by omega))] at ef_8
          refine lv_aload_n hx hb dX1_copyFrom_90 rfl (lv_at hl 0 rfl) ?_
          refine gf_X1_18 hx hb hts hown hK hP 0 rfl rfl dX1_copyFrom_91 ?_
          refine lv_iload_n hx hb dX1_copyFrom_94 rfl (lv_at hl 2 rfl) ?_
          refine lv_aload_n hx hb dX1_copyFrom_95 rfl (lv_at hl 1 rfl) ?_
          refine gf_X1_18 hx hb hts hown hK hP 6 rfl rfl dX1_copyFrom_96 ?_
          refine lv_iload_n hx hb dX1_copyFrom_99 rfl (lv_at hl 2 rfl) ?_
          refine va_iald hx hb hK hP 9 0 rfl rfl (vp_in_nI (n := i4) (N := 10) (by omega) (by omega)) dX1_copyFrom_100 ?_
          refine as_i (g3 i4) (congrArg g3 (nI_clamp (n := i4) (by omega))) ?_
          refine va_iast hx hb hK hP hD hS 3 0 rfl rfl (vp_in_nI (n := i4) (N := 10) (by omega) (by omega)) dX1_copyFrom_101 (fun H locs hP hD hS => ?_)
          obtain ⟨f_9, ef_9⟩ : ∃ z : Nat → Int32, z = upd g_6 (Int32.toNatClampNeg (nI i4)) (g3 i4) := ⟨_, rfl⟩
          have hP : va_P (dC, dI) vwCl [(h0, .inr (2, [.ref a1, .ref a2, .ref a3, .ref a4, .ref a5, .int ym, .int yd, .int yr, .int yf])), (a1, .inl (cy 1, 7, .inr (.inl g_2))), (a2, .inl (cy 1, 10, .inr (.inl f_8))), (a3, .inl (cy 0, 10, .inl f_9)), (a4, .inl (cy 2, 10, .inl g_7)), (a5, .inl (cy 0, 7, .inl g_3)), (k0, .inr (2, [.ref b1, .ref b2, .ref b3, .ref b4, .ref b5, .int ym, .int yd, .int yr, .int yf])), (b1, .inl (cy 1, 7, .inr (.inl g1))), (b2, .inl (cy 1, 10, .inr (.inl g2))), (b3, .inl (cy 0, 10, .inl g3)), (b4, .inl (cy 2, 10, .inl g4)), (b5, .inl (cy 0, 7, .inl g5))] H := by rw [ef_9]; exact hP
          have hD : va_D A [(h0, .inr (2, [.ref a1, .ref a2, .ref a3, .ref a4, .ref a5, .int ym, .int yd, .int yr, .int yf])), (a1, .inl (cy 1, 7, .inr (.inl g_2))), (a2, .inl (cy 1, 10, .inr (.inl f_8))), (a3, .inl (cy 0, 10, .inl f_9)), (a4, .inl (cy 2, 10, .inl g_7)), (a5, .inl (cy 0, 7, .inl g_3)), (k0, .inr (2, [.ref b1, .ref b2, .ref b3, .ref b4, .ref b5, .int ym, .int yd, .int yr, .int yf])), (b1, .inl (cy 1, 7, .inr (.inl g1))), (b2, .inl (cy 1, 10, .inr (.inl g2))), (b3, .inl (cy 0, 10, .inl g3)), (b4, .inl (cy 2, 10, .inl g4)), (b5, .inl (cy 0, 7, .inl g5))] := by rw [ef_9]; exact hD
          rw [(nI_clamp (n := i4) (by omega))] at ef_9
          refine lv_aload_n hx hb dX1_copyFrom_102 rfl (lv_at hl 0 rfl) ?_
          refine gf_X1_22 hx hb hts hown hK hP 0 rfl rfl dX1_copyFrom_103 ?_
          refine lv_iload_n hx hb dX1_copyFrom_106 rfl (lv_at hl 2 rfl) ?_
          refine lv_aload_n hx hb dX1_copyFrom_107 rfl (lv_at hl 1 rfl) ?_
          refine gf_X1_22 hx hb hts hown hK hP 6 rfl rfl dX1_copyFrom_108 ?_
          refine lv_iload_n hx hb dX1_copyFrom_111 rfl (lv_at hl 2 rfl) ?_
          refine va_zald hx hb hK hP 10 2 rfl rfl (vp_in_nI (n := i4) (N := 10) (by omega) (by omega)) dX1_copyFrom_112 ?_
          refine as_i (g4 i4) (congrArg g4 (nI_clamp (n := i4) (by omega))) ?_
          refine va_zast hx hb hK hP hD hS 4 2 rfl rfl (vp_in_nI (n := i4) (N := 10) (by omega) (by omega)) dX1_copyFrom_113 (fun H locs hP hD hS => ?_)
          obtain ⟨f_10, ef_10⟩ : ∃ z : Nat → Int32, z = upd g_7 (Int32.toNatClampNeg (nI i4)) (vp_nar .boolean (g4 i4)) := ⟨_, rfl⟩
          have hP : va_P (dC, dI) vwCl [(h0, .inr (2, [.ref a1, .ref a2, .ref a3, .ref a4, .ref a5, .int ym, .int yd, .int yr, .int yf])), (a1, .inl (cy 1, 7, .inr (.inl g_2))), (a2, .inl (cy 1, 10, .inr (.inl f_8))), (a3, .inl (cy 0, 10, .inl f_9)), (a4, .inl (cy 2, 10, .inl f_10)), (a5, .inl (cy 0, 7, .inl g_3)), (k0, .inr (2, [.ref b1, .ref b2, .ref b3, .ref b4, .ref b5, .int ym, .int yd, .int yr, .int yf])), (b1, .inl (cy 1, 7, .inr (.inl g1))), (b2, .inl (cy 1, 10, .inr (.inl g2))), (b3, .inl (cy 0, 10, .inl g3)), (b4, .inl (cy 2, 10, .inl g4)), (b5, .inl (cy 0, 7, .inl g5))] H := by rw [ef_10]; exact hP
          have hD : va_D A [(h0, .inr (2, [.ref a1, .ref a2, .ref a3, .ref a4, .ref a5, .int ym, .int yd, .int yr, .int yf])), (a1, .inl (cy 1, 7, .inr (.inl g_2))), (a2, .inl (cy 1, 10, .inr (.inl f_8))), (a3, .inl (cy 0, 10, .inl f_9)), (a4, .inl (cy 2, 10, .inl f_10)), (a5, .inl (cy 0, 7, .inl g_3)), (k0, .inr (2, [.ref b1, .ref b2, .ref b3, .ref b4, .ref b5, .int ym, .int yd, .int yr, .int yf])), (b1, .inl (cy 1, 7, .inr (.inl g1))), (b2, .inl (cy 1, 10, .inr (.inl g2))), (b3, .inl (cy 0, 10, .inl g3)), (b4, .inl (cy 2, 10, .inl g4)), (b5, .inl (cy 0, 7, .inl g5))] := by rw [ef_10]; exact hD
          rw [(nI_clamp (n := i4) (by omega))] at ef_10
          refine lv_iinc (v := nI (i4 + 1)) (lv' := [(2, .int (nI (i4 + 1))), (0, .ref h0), (1, .ref k0)]) hx hb dX1_copyFrom_114 hl (k := 2) rfl (nI_add i4 1) (by decide) rfl (fun ls hl => ?_)
          refine lv_goto (tgt := 72) hx hb dX1_copyFrom_117 (by decide) ?_
          exact ih4 (i4 + 1) f_8 f_9 f_10  (by omega) _ _ (hP.sub [0, 1, 2, 3, 4, 5, 6, 7, 8, 9, 10, 11] rfl) (hD.sub [0, 1, 2, 3, 4, 5, 6, 7, 8, 9, 10, 11] rfl rfl) hS ls (lv_sub hl [1, 2, 0] rfl)
      exact loop4 10 0 f2 f3 f4  (by omega) _ _ hP hD hS ls (lv_sub hl [1, 2, 0] rfl)
    | succ n1_ ih1 =>
      intro i1 g_2 g_3  hn1 H locs hP hD hS ls hl
      refine lv_iload_n hx hb dX1_copyFrom_34 rfl (lv_at hl 2 rfl) ?_
      refine lv_bipush (v := 7) hx hb dX1_copyFrom_35 (by decide) ?_
      refine lv_icmp_ge (tgt := 70) hx hb dX1_copyFrom_37 (by decide) (fun c9 => absurd c9 (nI_ge (a := i1) (b := 7) (by omega) (by decide))) (fun _ => ?_)
      refine lv_aload_n hx hb dX1_copyFrom_40 rfl (lv_at hl 0 rfl) ?_
      refine gf_X1_9 hx hb hts hown hK hP 0 rfl rfl dX1_copyFrom_41 ?_
      refine lv_iload_n hx hb dX1_copyFrom_44 rfl (lv_at hl 2 rfl) ?_
      refine lv_aload_n hx hb dX1_copyFrom_45 rfl (lv_at hl 1 rfl) ?_
      refine gf_X1_9 hx hb hts hown hK hP 6 rfl rfl dX1_copyFrom_46 ?_
      refine lv_iload_n hx hb dX1_copyFrom_49 rfl (lv_at hl 2 rfl) ?_
      refine va_lald hx hb hK hP 7 1 rfl rfl (vp_in_nI (n := i1) (N := 7) (by omega) (by omega)) dX1_copyFrom_50 ?_
      refine as_l (g1 i1) (congrArg g1 (nI_clamp (n := i1) (by omega))) ?_
      refine va_last hx hb hK hP hD hS 1 1 rfl rfl (vp_in_nI (n := i1) (N := 7) (by omega) (by omega)) dX1_copyFrom_51 (fun H locs hP hD hS => ?_)
      obtain ⟨f_11, ef_11⟩ : ∃ z : Nat → Int64, z = vp_updL g_2 (Int32.toNatClampNeg (nI i1)) (g1 i1) := ⟨_, rfl⟩
      have hP : va_P (dC, dI) vwCl [(h0, .inr (2, [.ref a1, .ref a2, .ref a3, .ref a4, .ref a5, .int ym, .int yd, .int yr, .int yf])), (a1, .inl (cy 1, 7, .inr (.inl f_11))), (a2, .inl (cy 1, 10, .inr (.inl f2))), (a3, .inl (cy 0, 10, .inl f3)), (a4, .inl (cy 2, 10, .inl f4)), (a5, .inl (cy 0, 7, .inl g_3)), (k0, .inr (2, [.ref b1, .ref b2, .ref b3, .ref b4, .ref b5, .int ym, .int yd, .int yr, .int yf])), (b1, .inl (cy 1, 7, .inr (.inl g1))), (b2, .inl (cy 1, 10, .inr (.inl g2))), (b3, .inl (cy 0, 10, .inl g3)), (b4, .inl (cy 2, 10, .inl g4)), (b5, .inl (cy 0, 7, .inl g5))] H := by rw [ef_11]; exact hP
      have hD : va_D A [(h0, .inr (2, [.ref a1, .ref a2, .ref a3, .ref a4, .ref a5, .int ym, .int yd, .int yr, .int yf])), (a1, .inl (cy 1, 7, .inr (.inl f_11))), (a2, .inl (cy 1, 10, .inr (.inl f2))), (a3, .inl (cy 0, 10, .inl f3)), (a4, .inl (cy 2, 10, .inl f4)), (a5, .inl (cy 0, 7, .inl g_3)), (k0, .inr (2, [.ref b1, .ref b2, .ref b3, .ref b4, .ref b5, .int ym, .int yd, .int yr, .int yf])), (b1, .inl (cy 1, 7, .inr (.inl g1))), (b2, .inl (cy 1, 10, .inr (.inl g2))), (b3, .inl (cy 0, 10, .inl g3)), (b4, .inl (cy 2, 10, .inl g4)), (b5, .inl (cy 0, 7, .inl g5))] := by rw [ef_11]; exact hD
      rw [(nI_clamp (n := i1) (by omega))] at ef_11
      refine lv_aload_n hx hb dX1_copyFrom_52 rfl (lv_at hl 0 rfl) ?_
      refine gf_X1_26 hx hb hts hown hK hP 0 rfl rfl dX1_copyFrom_53 ?_
      refine lv_iload_n hx hb dX1_copyFrom_56 rfl (lv_at hl 2 rfl) ?_
      refine lv_aload_n hx hb dX1_copyFrom_57 rfl (lv_at hl 1 rfl) ?_
      refine gf_X1_26 hx hb hts hown hK hP 6 rfl rfl dX1_copyFrom_58 ?_
      refine lv_iload_n hx hb dX1_copyFrom_61 rfl (lv_at hl 2 rfl) ?_
      refine va_iald hx hb hK hP 11 0 rfl rfl (vp_in_nI (n := i1) (N := 7) (by omega) (by omega)) dX1_copyFrom_62 ?_
      refine as_i (g5 i1) (congrArg g5 (nI_clamp (n := i1) (by omega))) ?_
      refine va_iast hx hb hK hP hD hS 5 0 rfl rfl (vp_in_nI (n := i1) (N := 7) (by omega) (by omega)) dX1_copyFrom_63 (fun H locs hP hD hS => ?_)
      obtain ⟨f_12, ef_12⟩ : ∃ z : Nat → Int32, z = upd g_3 (Int32.toNatClampNeg (nI i1)) (g5 i1) := ⟨_, rfl⟩
      have hP : va_P (dC, dI) vwCl [(h0, .inr (2, [.ref a1, .ref a2, .ref a3, .ref a4, .ref a5, .int ym, .int yd, .int yr, .int yf])), (a1, .inl (cy 1, 7, .inr (.inl f_11))), (a2, .inl (cy 1, 10, .inr (.inl f2))), (a3, .inl (cy 0, 10, .inl f3)), (a4, .inl (cy 2, 10, .inl f4)), (a5, .inl (cy 0, 7, .inl f_12)), (k0, .inr (2, [.ref b1, .ref b2, .ref b3, .ref b4, .ref b5, .int ym, .int yd, .int yr, .int yf])), (b1, .inl (cy 1, 7, .inr (.inl g1))), (b2, .inl (cy 1, 10, .inr (.inl g2))), (b3, .inl (cy 0, 10, .inl g3)), (b4, .inl (cy 2, 10, .inl g4)), (b5, .inl (cy 0, 7, .inl g5))] H := by rw [ef_12]; exact hP
      have hD : va_D A [(h0, .inr (2, [.ref a1, .ref a2, .ref a3, .ref a4, .ref a5, .int ym, .int yd, .int yr, .int yf])), (a1, .inl (cy 1, 7, .inr (.inl f_11))), (a2, .inl (cy 1, 10, .inr (.inl f2))), (a3, .inl (cy 0, 10, .inl f3)), (a4, .inl (cy 2, 10, .inl f4)), (a5, .inl (cy 0, 7, .inl f_12)), (k0, .inr (2, [.ref b1, .ref b2, .ref b3, .ref b4, .ref b5, .int ym, .int yd, .int yr, .int yf])), (b1, .inl (cy 1, 7, .inr (.inl g1))), (b2, .inl (cy 1, 10, .inr (.inl g2))), (b3, .inl (cy 0, 10, .inl g3)), (b4, .inl (cy 2, 10, .inl g4)), (b5, .inl (cy 0, 7, .inl g5))] := by rw [ef_12]; exact hD
      rw [(nI_clamp (n := i1) (by omega))] at ef_12
      refine lv_iinc (v := nI (i1 + 1)) (lv' := [(2, .int (nI (i1 + 1))), (0, .ref h0), (1, .ref k0)]) hx hb dX1_copyFrom_64 hl (k := 2) rfl (nI_add i1 1) (by decide) rfl (fun ls hl => ?_)
      refine lv_goto (tgt := 34) hx hb dX1_copyFrom_67 (by decide) ?_
      exact ih1 (i1 + 1) f_11 f_12  (by omega) _ _ (hP.sub [0, 1, 2, 3, 4, 5, 6, 7, 8, 9, 10, 11] rfl) (hD.sub [0, 1, 2, 3, 4, 5, 6, 7, 8, 9, 10, 11] rfl rfl) hS ls (lv_sub hl [1, 2, 0] rfl)
  exact loop1 7 0 f1 f5  (by omega) _ _ hP hD hS ls (lv_sub hl [1, 2, 0] rfl)
abbrev cX6_copyFrom : ByteArray := prog_8_method_3_code
def yX6_copyFrom : MethodName := ⟨RX6, "copyFrom", "(LLikenessPound$Sentence;)V"⟩
theorem t1304 : Cond.code yX6_copyFrom cX6_copyFrom 2 none ∈ GW := gw_mem 1418 (by decide +kernel) (by decide +kernel)
theorem dX6_copyFrom_0 : decode cX6_copyFrom 0 = .ok (.aload_n 0, 1) := by decide +kernel
theorem dX6_copyFrom_1 : decode cX6_copyFrom 1 = .ok (.aload_n 1, 1) := by decide +kernel
theorem dX6_copyFrom_2 : decode cX6_copyFrom 2 = .ok (.getfield 24, 3) := by decide +kernel
theorem gf_X6_24 {p : Program} {l : Launch} {e : Env} {R : Room} {s : State} {m : MethodId} {args : Array Value} {below : List Frame} {meth : Method} {c : Code} {H : Heap} {locs : List Loc} {cells slots : Nat} {Q : State → Prop} {cc : ByteArray} {pc : Nat} {ls : Array Slot} {rest : List Value} {D : va_G} {a : Nat} {tys : List (ClassId × FieldType)} {ws : va_W} (hx : p.tables.exec = Jvm.exec) (hb : c.code = cc) (hts : ∀ w ∈ GW, w.before args s = true) (hown : s.vm.findClass RX6 = some m.cls) (hK : va_K D vwCl tys s) (hP : va_P D vwCl ws H) (q0 : Nat) {fs : List Value} (he : ws[q0]? = some (a, .inr (7, fs))) {v : Value} (hv : fs[4]? = some v) (hdg : decode cc pc = .ok (.getfield 24, 3)) (kk : W p l e R s m args below meth c H locs cells slots Q (F0 m (pc + 3) ls (v :: rest))) : W p l e R s m args below meth c H locs cells slots Q (F0 m pc ls (.ref a :: rest)) := va_get (C := RX6) (T := TX6) (N := 6) (ci := 7) hx hb hts inX6 hown hK hP q0 he rfl 4 (by decide) (hts _ t443) (fun _ h => h) hv hdg kk
theorem dX6_copyFrom_5 : decode cX6_copyFrom 5 = .ok (.putfield 24, 3) := by decide +kernel
theorem dX6_copyFrom_8 : decode cX6_copyFrom 8 = .ok (.aload_n 0, 1) := by decide +kernel
theorem dX6_copyFrom_9 : decode cX6_copyFrom 9 = .ok (.aload_n 1, 1) := by decide +kernel
theorem dX6_copyFrom_10 : decode cX6_copyFrom 10 = .ok (.getfield 28, 3) := by decide +kernel
theorem gf_X6_28 {p : Program} {l : Launch} {e : Env} {R : Room} {s : State} {m : MethodId} {args : Array Value} {below : List Frame} {meth : Method} {c : Code} {H : Heap} {locs : List Loc} {cells slots : Nat} {Q : State → Prop} {cc : ByteArray} {pc : Nat} {ls : Array Slot} {rest : List Value} {D : va_G} {a : Nat} {tys : List (ClassId × FieldType)} {ws : va_W} (hx : p.tables.exec = Jvm.exec) (hb : c.code = cc) (hts : ∀ w ∈ GW, w.before args s = true) (hown : s.vm.findClass RX6 = some m.cls) (hK : va_K D vwCl tys s) (hP : va_P D vwCl ws H) (q0 : Nat) {fs : List Value} (he : ws[q0]? = some (a, .inr (7, fs))) {v : Value} (hv : fs[5]? = some v) (hdg : decode cc pc = .ok (.getfield 28, 3)) (kk : W p l e R s m args below meth c H locs cells slots Q (F0 m (pc + 3) ls (v :: rest))) : W p l e R s m args below meth c H locs cells slots Q (F0 m pc ls (.ref a :: rest)) := va_get (C := RX6) (T := TX6) (N := 6) (ci := 7) hx hb hts inX6 hown hK hP q0 he rfl 5 (by decide) (hts _ t444) (fun _ h => h) hv hdg kk
theorem dX6_copyFrom_13 : decode cX6_copyFrom 13 = .ok (.putfield 28, 3) := by decide +kernel
theorem dX6_copyFrom_16 : decode cX6_copyFrom 16 = .ok (.aload_n 1, 1) := by decide +kernel
theorem dX6_copyFrom_17 : decode cX6_copyFrom 17 = .ok (.getfield 11, 3) := by decide +kernel
theorem t439 : Cond.fieldLink RX6 11 "LikenessPound$Sentence" "step" "[I" ∈ GW := gw_mem 553 (by decide +kernel) (by decide +kernel)
theorem gf_X6_11 {p : Program} {l : Launch} {e : Env} {R : Room} {s : State} {m : MethodId} {args : Array Value} {below : List Frame} {meth : Method} {c : Code} {H : Heap} {locs : List Loc} {cells slots : Nat} {Q : State → Prop} {cc : ByteArray} {pc : Nat} {ls : Array Slot} {rest : List Value} {D : va_G} {a : Nat} {tys : List (ClassId × FieldType)} {ws : va_W} (hx : p.tables.exec = Jvm.exec) (hb : c.code = cc) (hts : ∀ w ∈ GW, w.before args s = true) (hown : s.vm.findClass RX6 = some m.cls) (hK : va_K D vwCl tys s) (hP : va_P D vwCl ws H) (q0 : Nat) {fs : List Value} (he : ws[q0]? = some (a, .inr (7, fs))) {v : Value} (hv : fs[0]? = some v) (hdg : decode cc pc = .ok (.getfield 11, 3)) (kk : W p l e R s m args below meth c H locs cells slots Q (F0 m (pc + 3) ls (v :: rest))) : W p l e R s m args below meth c H locs cells slots Q (F0 m pc ls (.ref a :: rest)) := va_get (C := RX6) (T := TX6) (N := 6) (ci := 7) hx hb hts inX6 hown hK hP q0 he rfl 0 (by decide) (hts _ t439) (fun _ h => h) hv hdg kk
theorem dX6_copyFrom_20 : decode cX6_copyFrom 20 = .ok (.iconst 0, 1) := by decide +kernel
theorem dX6_copyFrom_21 : decode cX6_copyFrom 21 = .ok (.aload_n 0, 1) := by decide +kernel
theorem dX6_copyFrom_22 : decode cX6_copyFrom 22 = .ok (.getfield 11, 3) := by decide +kernel
theorem dX6_copyFrom_25 : decode cX6_copyFrom 25 = .ok (.iconst 0, 1) := by decide +kernel
theorem dX6_copyFrom_26 : decode cX6_copyFrom 26 = .ok (.bipush 40, 2) := by decide +kernel
theorem dX6_copyFrom_28 : decode cX6_copyFrom 28 = .ok (.invokestatic 31, 3) := by decide +kernel
theorem t1305 : Cond.methodLink RX6 31 arraycopyName ∈ GW := gw_mem 1419 (by decide +kernel) (by decide +kernel)
theorem dX6_copyFrom_31 : decode cX6_copyFrom 31 = .ok (.aload_n 1, 1) := by decide +kernel
theorem dX6_copyFrom_32 : decode cX6_copyFrom 32 = .ok (.getfield 15, 3) := by decide +kernel
theorem t440 : Cond.fieldLink RX6 15 "LikenessPound$Sentence" "sign" "[I" ∈ GW := gw_mem 554 (by decide +kernel) (by decide +kernel)
theorem gf_X6_15 {p : Program} {l : Launch} {e : Env} {R : Room} {s : State} {m : MethodId} {args : Array Value} {below : List Frame} {meth : Method} {c : Code} {H : Heap} {locs : List Loc} {cells slots : Nat} {Q : State → Prop} {cc : ByteArray} {pc : Nat} {ls : Array Slot} {rest : List Value} {D : va_G} {a : Nat} {tys : List (ClassId × FieldType)} {ws : va_W} (hx : p.tables.exec = Jvm.exec) (hb : c.code = cc) (hts : ∀ w ∈ GW, w.before args s = true) (hown : s.vm.findClass RX6 = some m.cls) (hK : va_K D vwCl tys s) (hP : va_P D vwCl ws H) (q0 : Nat) {fs : List Value} (he : ws[q0]? = some (a, .inr (7, fs))) {v : Value} (hv : fs[1]? = some v) (hdg : decode cc pc = .ok (.getfield 15, 3)) (kk : W p l e R s m args below meth c H locs cells slots Q (F0 m (pc + 3) ls (v :: rest))) : W p l e R s m args below meth c H locs cells slots Q (F0 m pc ls (.ref a :: rest)) := va_get (C := RX6) (T := TX6) (N := 6) (ci := 7) hx hb hts inX6 hown hK hP q0 he rfl 1 (by decide) (hts _ t440) (fun _ h => h) hv hdg kk
theorem dX6_copyFrom_35 : decode cX6_copyFrom 35 = .ok (.iconst 0, 1) := by decide +kernel
theorem dX6_copyFrom_36 : decode cX6_copyFrom 36 = .ok (.aload_n 0, 1) := by decide +kernel
theorem dX6_copyFrom_37 : decode cX6_copyFrom 37 = .ok (.getfield 15, 3) := by decide +kernel
theorem dX6_copyFrom_40 : decode cX6_copyFrom 40 = .ok (.iconst 0, 1) := by decide +kernel
theorem dX6_copyFrom_41 : decode cX6_copyFrom 41 = .ok (.bipush 40, 2) := by decide +kernel
theorem dX6_copyFrom_43 : decode cX6_copyFrom 43 = .ok (.invokestatic 31, 3) := by decide +kernel
theorem dX6_copyFrom_46 : decode cX6_copyFrom 46 = .ok (.aload_n 1, 1) := by decide +kernel
theorem dX6_copyFrom_47 : decode cX6_copyFrom 47 = .ok (.getfield 18, 3) := by decide +kernel
theorem t441 : Cond.fieldLink RX6 18 "LikenessPound$Sentence" "number" "[I" ∈ GW := gw_mem 555 (by decide +kernel) (by decide +kernel)
theorem gf_X6_18 {p : Program} {l : Launch} {e : Env} {R : Room} {s : State} {m : MethodId} {args : Array Value} {below : List Frame} {meth : Method} {c : Code} {H : Heap} {locs : List Loc} {cells slots : Nat} {Q : State → Prop} {cc : ByteArray} {pc : Nat} {ls : Array Slot} {rest : List Value} {D : va_G} {a : Nat} {tys : List (ClassId × FieldType)} {ws : va_W} (hx : p.tables.exec = Jvm.exec) (hb : c.code = cc) (hts : ∀ w ∈ GW, w.before args s = true) (hown : s.vm.findClass RX6 = some m.cls) (hK : va_K D vwCl tys s) (hP : va_P D vwCl ws H) (q0 : Nat) {fs : List Value} (he : ws[q0]? = some (a, .inr (7, fs))) {v : Value} (hv : fs[2]? = some v) (hdg : decode cc pc = .ok (.getfield 18, 3)) (kk : W p l e R s m args below meth c H locs cells slots Q (F0 m (pc + 3) ls (v :: rest))) : W p l e R s m args below meth c H locs cells slots Q (F0 m pc ls (.ref a :: rest)) := va_get (C := RX6) (T := TX6) (N := 6) (ci := 7) hx hb hts inX6 hown hK hP q0 he rfl 2 (by decide) (hts _ t441) (fun _ h => h) hv hdg kk
theorem dX6_copyFrom_50 : decode cX6_copyFrom 50 = .ok (.iconst 0, 1) := by decide +kernel
theorem dX6_copyFrom_51 : decode cX6_copyFrom 51 = .ok (.aload_n 0, 1) := by decide +kernel
theorem dX6_copyFrom_52 : decode cX6_copyFrom 52 = .ok (.getfield 18, 3) := by decide +kernel
theorem dX6_copyFrom_55 : decode cX6_copyFrom 55 = .ok (.iconst 0, 1) := by decide +kernel
theorem dX6_copyFrom_56 : decode cX6_copyFrom 56 = .ok (.bipush 40, 2) := by decide +kernel
theorem dX6_copyFrom_58 : decode cX6_copyFrom 58 = .ok (.invokestatic 31, 3) := by decide +kernel
theorem dX6_copyFrom_61 : decode cX6_copyFrom 61 = .ok (.return_, 1) := by decide +kernel
set_option maxHeartbeats 4000000 in
set_option maxRecDepth 100000 in
theorem c_Sen_copy (l : Launch) (dC : Nat → ClassId) (dI : Nat → Nat → Nat) (cy : Nat → ClassId) (sz : Nat) (h0 : Nat) (a1 : Nat) (a2 : Nat) (a3 : Nat) (a4 : Nat) (x1 : Int32) (x2 : Int32) (f1 : Nat → Int32) (f2 : Nat → Int32) (f3 : Nat → Int32) (k0 : Nat) (b1 : Nat) (b2 : Nat) (b3 : Nat) (b4 : Nat) (y1 : Int32) (y2 : Int32) (g1 : Nat → Int32) (g2 : Nat → Int32) (g3 : Nat → Int32)  : Met l yX6_copyFrom (wl yX6_copyFrom cX6_copyFrom 2 none) ({ frames := 1, cells := 0, slots := 0, locals := 64 }) (Pw (dC, dI) vwCl cy [(h0, .inr (7, [.ref a1, .ref a2, .ref a3, .ref a4, .int x1, .int x2])), (a1, .inl (cy 0, 40, .inl f1)), (a2, .inl (cy 0, 40, .inl f2)), (a3, .inl (cy 0, 40, .inl f3)), (k0, .inr (7, [.ref b1, .ref b2, .ref b3, .ref b4, .int y1, .int y2])), (b1, .inl (cy 0, 40, .inl g1)), (b2, .inl (cy 0, 40, .inl g2)), (b3, .inl (cy 0, 40, .inl g3))] sz [.ref h0, .ref k0] nE) (Qv (dC, dI) vwCl (fun (u : (Nat → Int32) × (Nat → Int32) × (Nat → Int32)) => True) (fun (u : (Nat → Int32) × (Nat → Int32) × (Nat → Int32)) => [(h0, .inr (7, [.ref a1, .ref a2, .ref a3, .ref a4, .int y1, .int y2])), (a1, .inl (cy 0, 40, .inl u.1)), (a2, .inl (cy 0, 40, .inl u.2.1)), (a3, .inl (cy 0, 40, .inl u.2.2)), (k0, .inr (7, [.ref b1, .ref b2, .ref b3, .ref b4, .int y1, .int y2])), (b1, .inl (cy 0, 40, .inl g1)), (b2, .inl (cy 0, 40, .inl g2)), (b3, .inl (cy 0, 40, .inl g3))]) (va_A [(h0, .inr (7, [.ref a1, .ref a2, .ref a3, .ref a4, .int x1, .int x2])), (a1, .inl (cy 0, 40, .inl f1)), (a2, .inl (cy 0, 40, .inl f2)), (a3, .inl (cy 0, 40, .inl f3)), (k0, .inr (7, [.ref b1, .ref b2, .ref b3, .ref b4, .int y1, .int y2])), (b1, .inl (cy 0, 40, .inl g1)), (b2, .inl (cy 0, 40, .inl g2)), (b3, .inl (cy 0, 40, .inl g3))] sz)) 0 0 (va_A [(h0, .inr (7, [.ref a1, .ref a2, .ref a3, .ref a4, .int x1, .int x2])), (a1, .inl (cy 0, 40, .inl f1)), (a2, .inl (cy 0, 40, .inl f2)), (a3, .inl (cy 0, 40, .inl f3)), (k0, .inr (7, [.ref b1, .ref b2, .ref b3, .ref b4, .int y1, .int y2])), (b1, .inl (cy 0, 40, .inl g1)), (b2, .inl (cy 0, 40, .inl g2)), (b3, .inl (cy 0, 40, .inl g3))] sz) := by
  refine mw (Qc := Qv (dC, dI) vwCl (fun (u : (Nat → Int32) × (Nat → Int32) × (Nat → Int32)) => True) (fun (u : (Nat → Int32) × (Nat → Int32) × (Nat → Int32)) => [(h0, .inr (7, [.ref a1, .ref a2, .ref a3, .ref a4, .int y1, .int y2])), (a1, .inl (cy 0, 40, .inl u.1)), (a2, .inl (cy 0, 40, .inl u.2.1)), (a3, .inl (cy 0, 40, .inl u.2.2)), (k0, .inr (7, [.ref b1, .ref b2, .ref b3, .ref b4, .int y1, .int y2])), (b1, .inl (cy 0, 40, .inl g1)), (b2, .inl (cy 0, 40, .inl g2)), (b3, .inl (cy 0, 40, .inl g3))])) RX6 rfl (by decide +kernel) (Nat.le_of_ble_eq_true rfl) ?_
  intro p e s m below meth c A hx hb hr hlocks av9 hav hts hown hnm hml hK hP hD hA hS hE hAe Q9 hQ9 ls hl
  have hl : lv_has ls 2 [(0, .ref h0), (1, .ref k0)] := hl
  refine lv_aload_n hx hb dX6_copyFrom_0 rfl (lv_at hl 0 rfl) ?_
  refine lv_aload_n hx hb dX6_copyFrom_1 rfl (lv_at hl 1 rfl) ?_
  refine gf_X6_24 hx hb hts hown hK hP 4 rfl rfl dX6_copyFrom_2 ?_
  refine pf_X6_24 hx hb hts hown hK hP hD hS 0 rfl rfl rfl (Nat.le_of_ble_eq_true rfl) dX6_copyFrom_5 (fun H locs hP hD hS => ?_)
  have hP : va_P (dC, dI) vwCl [(h0, .inr (7, [.ref a1, .ref a2, .ref a3, .ref a4, .int y1, .int x2])), (a1, .inl (cy 0, 40, .inl f1)), (a2, .inl (cy 0, 40, .inl f2)), (a3, .inl (cy 0, 40, .inl f3)), (k0, .inr (7, [.ref b1, .ref b2, .ref b3, .ref b4, .int y1, .int y2])), (b1, .inl (cy 0, 40, .inl g1)), (b2, .inl (cy 0, 40, .inl g2)), (b3, .inl (cy 0, 40, .inl g3))] H := hP
  have hD : va_D A [(h0, .inr (7, [.ref a1, .ref a2, .ref a3, .ref a4, .int y1, .int x2])), (a1, .inl (cy 0, 40, .inl f1)), (a2, .inl (cy 0, 40, .inl f2)), (a3, .inl (cy 0, 40, .inl f3)), (k0, .inr (7, [.ref b1, .ref b2, .ref b3, .ref b4, .int y1, .int y2])), (b1, .inl (cy 0, 40, .inl g1)), (b2, .inl (cy 0, 40, .inl g2)), (b3, .inl (cy 0, 40, .inl g3))] := hD
  refine lv_aload_n hx hb dX6_copyFrom_8 rfl (lv_at hl 0 rfl) ?_
  refine lv_aload_n hx hb dX6_copyFrom_9 rfl (lv_at hl 1 rfl) ?_
  refine gf_X6_28 hx hb hts hown hK hP 4 rfl rfl dX6_copyFrom_10 ?_
  refine pf_X6_28 hx hb hts hown hK hP hD hS 0 rfl rfl rfl (Nat.le_of_ble_eq_true rfl) dX6_copyFrom_13 (fun H locs hP hD hS => ?_)
  have hP : va_P (dC, dI) vwCl [(h0, .inr (7, [.ref a1, .ref a2, .ref a3, .ref a4, .int y1, .int y2])), (a1, .inl (cy 0, 40, .inl f1)), (a2, .inl (cy 0, 40, .inl f2)), (a3, .inl (cy 0, 40, .inl f3)), (k0, .inr (7, [.ref b1, .ref b2, .ref b3, .ref b4, .int y1, .int y2])), (b1, .inl (cy 0, 40, .inl g1)), (b2, .inl (cy 0, 40, .inl g2)), (b3, .inl (cy 0, 40, .inl g3))] H := hP
  have hD : va_D A [(h0, .inr (7, [.ref a1, .ref a2, .ref a3, .ref a4, .int y1, .int y2])), (a1, .inl (cy 0, 40, .inl f1)), (a2, .inl (cy 0, 40, .inl f2)), (a3, .inl (cy 0, 40, .inl f3)), (k0, .inr (7, [.ref b1, .ref b2, .ref b3, .ref b4, .int y1, .int y2])), (b1, .inl (cy 0, 40, .inl g1)), (b2, .inl (cy 0, 40, .inl g2)), (b3, .inl (cy 0, 40, .inl g3))] := hD
  refine lv_aload_n hx hb dX6_copyFrom_16 rfl (lv_at hl 1 rfl) ?_
  refine gf_X6_11 hx hb hts hown hK hP 4 rfl rfl dX6_copyFrom_17 ?_
  refine lv_iconst (v := 0) hx hb dX6_copyFrom_20 (by decide) ?_
  refine lv_aload_n hx hb dX6_copyFrom_21 rfl (lv_at hl 0 rfl) ?_
  refine gf_X6_11 hx hb hts hown hK hP 0 rfl rfl dX6_copyFrom_22 ?_
  refine lv_iconst (v := 0) hx hb dX6_copyFrom_25 (by decide) ?_
  refine lv_bipush (v := 40) hx hb dX6_copyFrom_26 (by decide) ?_
  refine va_copyi hx hb (by rw [hml, hl.1]) hown (hts _ t1305) (hts _ t769) (hts _ t768) (hts _ t23) hK hP hD hS 5 1 0 0 rfl rfl rfl rfl rfl (by decide) (by decide) (by decide) (by decide) (by decide) (fun _ _ => rfl) (Nat.le_of_ble_eq_true rfl) (Nat.le_of_ble_eq_true rfl) dX6_copyFrom_28 (fun H locs hP hD hS => ?_)
  obtain ⟨f_1, ef_1⟩ : ∃ z : Nat → Int32, z = va_cpy g1 f1 (Int32.toNatClampNeg 0) (Int32.toNatClampNeg 0) (Int32.toNatClampNeg 40) := ⟨_, rfl⟩
  have hP : va_P (dC, dI) vwCl [(h0, .inr (7, [.ref a1, .ref a2, .ref a3, .ref a4, .int y1, .int y2])), (a1, .inl (cy 0, 40, .inl f_1)), (a2, .inl (cy 0, 40, .inl f2)), (a3, .inl (cy 0, 40, .inl f3)), (k0, .inr (7, [.ref b1, .ref b2, .ref b3, .ref b4, .int y1, .int y2])), (b1, .inl (cy 0, 40, .inl g1)), (b2, .inl (cy 0, 40, .inl g2)), (b3, .inl (cy 0, 40, .inl g3))] H := by rw [ef_1]; exact hP
  have hD : va_D A [(h0, .inr (7, [.ref a1, .ref a2, .ref a3, .ref a4, .int y1, .int y2])), (a1, .inl (cy 0, 40, .inl f_1)), (a2, .inl (cy 0, 40, .inl f2)), (a3, .inl (cy 0, 40, .inl f3)), (k0, .inr (7, [.ref b1, .ref b2, .ref b3, .ref b4, .int y1, .int y2])), (b1, .inl (cy 0, 40, .inl g1)), (b2, .inl (cy 0, 40, .inl g2)), (b3, .inl (cy 0, 40, .inl g3))] := by rw [ef_1]; exact hD
  refine lv_aload_n hx hb dX6_copyFrom_31 rfl (lv_at hl 1 rfl) ?_
  refine gf_X6_15 hx hb hts hown hK hP 4 rfl rfl dX6_copyFrom_32 ?_
  refine lv_iconst (v := 0) hx hb dX6_copyFrom_35 (by decide) ?_
  refine lv_aload_n hx hb dX6_copyFrom_36 rfl (lv_at hl 0 rfl) ?_
  refine gf_X6_15 hx hb hts hown hK hP 0 rfl rfl dX6_copyFrom_37 ?_
  refine lv_iconst (v := 0) hx hb dX6_copyFrom_40 (by decide) ?_
  refine lv_bipush (v := 40) hx hb dX6_copyFrom_41 (by decide) ?_
  refine va_copyi hx hb (by rw [hml, hl.1]) hown (hts _ t1305) (hts _ t769) (hts _ t768) (hts _ t23) hK hP hD hS 6 2 0 0 rfl rfl rfl rfl rfl (by decide) (by decide) (by decide) (by decide) (by decide) (fun _ _ => rfl) (Nat.le_of_ble_eq_true rfl) (Nat.le_of_ble_eq_true rfl) dX6_copyFrom_43 (fun H locs hP hD hS => ?_)
  obtain ⟨f_2, ef_2⟩ : ∃ z : Nat → Int32, z = va_cpy g2 f2 (Int32.toNatClampNeg 0) (Int32.toNatClampNeg 0) (Int32.toNatClampNeg 40) := ⟨_, rfl⟩
  have hP : va_P (dC, dI) vwCl [(h0, .inr (7, [.ref a1, .ref a2, .ref a3, .ref a4, .int y1, .int y2])), (a1, .inl (cy 0, 40, .inl f_1)), (a2, .inl (cy 0, 40, .inl f_2)), (a3, .inl (cy 0, 40, .inl f3)), (k0, .inr (7, [.ref b1, .ref b2, .ref b3, .ref b4, .int y1, .int y2])), (b1, .inl (cy 0, 40, .inl g1)), (b2, .inl (cy 0, 40, .inl g2)), (b3, .inl (cy 0, 40, .inl g3))] H := by rw [ef_2]; exact hP
  have hD : va_D A [(h0, .inr (7, [.ref a1, .ref a2, .ref a3, .ref a4, .int y1, .int y2])), (a1, .inl (cy 0, 40, .inl f_1)), (a2, .inl (cy 0, 40, .inl f_2)), (a3, .inl (cy 0, 40, .inl f3)), (k0, .inr (7, [.ref b1, .ref b2, .ref b3, .ref b4, .int y1, .int y2])), (b1, .inl (cy 0, 40, .inl g1)), (b2, .inl (cy 0, 40, .inl g2)), (b3, .inl (cy 0, 40, .inl g3))] := by rw [ef_2]; exact hD
  refine lv_aload_n hx hb dX6_copyFrom_46 rfl (lv_at hl 1 rfl) ?_
  refine gf_X6_18 hx hb hts hown hK hP 4 rfl rfl dX6_copyFrom_47 ?_
  refine lv_iconst (v := 0) hx hb dX6_copyFrom_50 (by decide) ?_
  refine lv_aload_n hx hb dX6_copyFrom_51 rfl (lv_at hl 0 rfl) ?_
  refine gf_X6_18 hx hb hts hown hK hP 0 rfl rfl dX6_copyFrom_52 ?_
  refine lv_iconst (v := 0) hx hb dX6_copyFrom_55 (by decide) ?_
  refine lv_bipush (v := 40) hx hb dX6_copyFrom_56 (by decide) ?_
  refine va_copyi hx hb (by rw [hml, hl.1]) hown (hts _ t1305) (hts _ t769) (hts _ t768) (hts _ t23) hK hP hD hS 7 3 0 0 rfl rfl rfl rfl rfl (by decide) (by decide) (by decide) (by decide) (by decide) (fun _ _ => rfl) (Nat.le_of_ble_eq_true rfl) (Nat.le_of_ble_eq_true rfl) dX6_copyFrom_58 (fun H locs hP hD hS => ?_)
  obtain ⟨f_3, ef_3⟩ : ∃ z : Nat → Int32, z = va_cpy g3 f3 (Int32.toNatClampNeg 0) (Int32.toNatClampNeg 0) (Int32.toNatClampNeg 40) := ⟨_, rfl⟩
  have hP : va_P (dC, dI) vwCl [(h0, .inr (7, [.ref a1, .ref a2, .ref a3, .ref a4, .int y1, .int y2])), (a1, .inl (cy 0, 40, .inl f_1)), (a2, .inl (cy 0, 40, .inl f_2)), (a3, .inl (cy 0, 40, .inl f_3)), (k0, .inr (7, [.ref b1, .ref b2, .ref b3, .ref b4, .int y1, .int y2])), (b1, .inl (cy 0, 40, .inl g1)), (b2, .inl (cy 0, 40, .inl g2)), (b3, .inl (cy 0, 40, .inl g3))] H := by rw [ef_3]; exact hP
  have hD : va_D A [(h0, .inr (7, [.ref a1, .ref a2, .ref a3, .ref a4, .int y1, .int y2])), (a1, .inl (cy 0, 40, .inl f_1)), (a2, .inl (cy 0, 40, .inl f_2)), (a3, .inl (cy 0, 40, .inl f_3)), (k0, .inr (7, [.ref b1, .ref b2, .ref b3, .ref b4, .int y1, .int y2])), (b1, .inl (cy 0, 40, .inl g1)), (b2, .inl (cy 0, 40, .inl g2)), (b3, .inl (cy 0, 40, .inl g3))] := by rw [ef_3]; exact hD
  rw [hQ9]
  exact re_v (f_1, f_2, f_3) hx hb hr hlocks trivial (hP.sub [0, 1, 2, 3, 4, 5, 6, 7] rfl) (hD.sub [0, 1, 2, 3, 4, 5, 6, 7] rfl rfl) hS dX6_copyFrom_61
end
